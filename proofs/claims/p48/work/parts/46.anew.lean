/-! ===== REP anew: rows taken twice, lifts and rumours added, another tower ===== -/
def up1 (p : Nat → Nat) (a b : Nat) : Nat → Nat := fun q => if q = a then b else p q
theorem up1_e {p : Nat → Nat} {a b : Nat} : up1 p a b a = b := if_pos rfl
theorem up1_n {p : Nat → Nat} {a b q : Nat} (h : q ≠ a) : up1 p a b q = p q := if_neg h
theorem RQ.KR {tg pl : Nat → Nat} {n : Nat} {sh : Nat → jv_S} {V C : Nat → Nat → Int32} {N K R K1 R1 ρ : Nat} (h : RQ tg pl n sh V C N K R ρ) (hu : used K R ρ) (hK : K ≤ 4) (hK1 : K1 ≤ 4) (h7 : ρ = 7 → K1 = K) (h8 : ρ = 8 → R1 = R) : RQ tg pl n sh V C N K1 R1 ρ := by
  obtain ⟨a1, a2, a3, a4, a5, a6, a7⟩ := h
  refine ⟨a1, fun e => by rw [h7 e]; exact a2 e, fun e => by rw [h8 e]; exact a3 e, fun k _ e => ?_, fun j _ e => ?_, fun j o _ h1 h2 e => ?_, fun j _ e => ?_⟩
  · exact a4 k (by unfold used at hu; omega) e
  · exact a5 j (by unfold used at hu; omega) e
  · exact a6 j o (by unfold used at hu; omega) h1 h2 e
  · exact a7 j (by unfold used at hu; omega) e
theorem REP.re {tg pl tg1 pl1 : Nat → Nat} {n0 n1 : Nat} {sh0 s1 : Nat → jv_S} {V0 V1 C C1 : Nat → Nat → Int32} {N K R K1 R1 : Nat} (H : REP tg pl n0 sh0 V0 C N K R) (hK1 : K1 ≤ 4) (hR1 : R1 ≤ 8) (h1 : n0 ≤ n1) (h2 : ∀ q, 124 ≤ q → q < n0 → s1 q = sh0 q ∧ V1 q = V0 q) (h3 : ∀ q, q < n0 → tg1 q = tg q) (h3' : ∀ q, tg1 q = 1 → 124 ≤ q) (h4 : RS pl1 s1 V1 C1) (fr : Nat → Prop)
    (hfr : ∀ ρ, used K1 R1 ρ → fr ρ → (tg1 (pl1 ρ) = ρ ∧ 124 ≤ pl1 ρ ∧ pl1 ρ < n1) ∧ RQ tg1 pl1 n1 s1 V1 C1 N K1 R1 ρ) (hkp : ∀ ρ, used K1 R1 ρ → ¬ fr ρ → used K R ρ ∧ pl1 ρ = pl ρ ∧ (ρ = 7 → K1 = K) ∧ (ρ = 8 → R1 = R) ∧ (∀ ρ', child ρ ρ' → pl1 ρ' = pl ρ') ∧ ∀ q, rowOf ρ q → C1 q = C q) : REP tg1 pl1 n1 s1 V1 C1 N K1 R1 := by
  refine ⟨⟨H.N2, H.N12, hK1, hR1, by have := H.n124; omega, h3'⟩, fun ρ hu => ?_, h4, fun ρ hu => ?_⟩
  · by_cases e : fr ρ
    · exact (hfr ρ hu e).1
    · obtain ⟨a, b, -⟩ := hkp ρ hu e
      rw [b, h3 _ (H.lt a)]
      exact ⟨(H.2.1 ρ a).1, H.ge a, by have := H.lt a; omega⟩
  · by_cases e : fr ρ
    · exact (hfr ρ hu e).2
    · obtain ⟨a, b, c, d, f, k⟩ := hkp ρ hu e
      have hp := h2 (pl ρ) (H.ge a) (H.lt a)
      exact ((H.2.2.2 ρ a).KR a H.K4 hK1 c d).to hK1 b hp.1 hp.2 f (fun q hq ht => by rw [h3 q hq]; exact ht) (fun q hq ht _ => h2 q (H.e124 ht) hq) h1 k
/-- heads, stay or stairs taken twice, one number changed -/
theorem REP.row {tg pl : Nat → Nat} {n i f : Nat} {sh : Nat → jv_S} {V C : Nat → Nat → Int32} {N K R : Nat} {x : Int32} (H : REP tg pl n sh V C N K R) (h1 : 2 ≤ i) (h2 : i ≤ 4) :
    REP (up1 tg n i) (up1 pl i n) (n + 1) (jv_US (jv_NS sh n (10, tlen N i, fun _ => none)) 123 (i - 1) n) (jv_U (jv_NV V n (V (pl i))) n f x) (jv_U C i f x) N K R := by
  have hn := H.n124
  have hui : used K R i := used.t h1 (by omega)
  have hpi := H.lt hui
  have es : ∀ q, q ≠ n → q ≠ 123 → jv_US (jv_NS sh n (10, tlen N i, fun _ => none)) 123 (i - 1) n q = sh q := fun q a b => by rw [jv_US_other b, jv_NS_ne a]
  have eV : ∀ q, q ≠ n → jv_U (jv_NV V n (V (pl i))) n f x q = V q := fun q a => by rw [jv_U_other a, jv_NV_ne a]
  refine H.re H.K4 H.R8 (by omega) (fun q a b => ⟨es q (by omega) (by omega), eV q (by omega)⟩) (fun q a => up1_n (by omega)) (fun q hq => ?_) ?_ (fun ρ => ρ = i) (fun ρ hu e => ?_) (fun ρ hu e => ⟨hu, up1_n e, fun _ => rfl, fun _ => rfl, fun ρ' hc => up1_n (by unfold child at hc; omega), fun q hq => jv_U_other (by unfold rowOf at hq; omega)⟩)
  · by_cases c : q = n
    · omega
    · rw [up1_n c] at hq
      exact H.e124 hq
  · refine ⟨by rw [US_1, jv_NS_ne (by omega)]; exact H.s, fun i' a b => ?_, ?_, ?_, ?_⟩
    · by_cases c : i' = i
      · subst c
        rw [up1_e]
        exact US_eq
      · rw [US_nej (by omega), jv_NS_ne (by omega), up1_n c]
        exact H.2.2.1.2.1 i' a b
    · rw [US_nej (by omega), jv_NS_ne (by omega), up1_n (by omega)]
      exact H.s5
    · rw [US_nej (by omega), jv_NS_ne (by omega), up1_n (by omega)]
      exact H.s6
    · rw [eV 123 (by omega), jv_Une (by omega)]
      exact H.hr
  · subst e
    rw [up1_e, up1_e]
    refine ⟨⟨rfl, by omega, by omega⟩, fun _ _ => ?_, fun c => by omega, fun c => by omega, fun k _ c => by omega, fun j _ c => by omega, fun j o _ _ _ c => by omega, fun j _ c => by omega⟩
    rw [up1_e, US_1, US_2, jv_NS_self, if_neg (by omega), jv_U_self, jv_U_self, jv_NV_self]
    refine ⟨rfl, rfl, fun g hg => ?_⟩
    show (if g = f then x else V (pl ρ) g) = if g = f then x else C ρ g
    by_cases c : g = f
    · rw [if_pos c, if_pos c]
    · rw [if_neg c, if_neg c]
      exact ((H.2.2.2 ρ hui).1 h1 (by omega)).2.2 g hg
/-- stairs shut or opened -/
theorem REP.op {tg pl : Nat → Nat} {n f : Nat} {sh : Nat → jv_S} {V C : Nat → Nat → Int32} {N K R : Nat} {x : Int32} (H : REP tg pl n sh V C N K R) : REP tg pl n sh (jv_U V (pl 5) f x) (jv_U C 5 f x) N K R := by
  have hu : used K R 5 := used.t (by decide) (by decide)
  refine H.upd hu (jv_Une (by omega)) (fun q ρ' hu' hne hq => jv_U_other (fun c => by unfold rowOf at hq; omega)) ?_
  obtain ⟨b1, b2, b3⟩ := H.q5
  refine ⟨fun _ _ => ?_, fun c => by omega, fun c => by omega, fun k _ c => by omega, fun j _ c => by omega, fun j o _ _ _ c => by omega, fun j _ c => by omega⟩
  rw [if_pos rfl]
  refine ⟨b1, b2, fun g hg => ?_⟩
  rw [jv_U_self, jv_U_self]
  show (if g = f then x else V (pl 5) g) = if g = f then x else C 5 g
  by_cases c : g = f
  · rw [if_pos c, if_pos c]
  · rw [if_neg c, if_neg c]
    exact b3 g hg
/-- a lift stopped or let run -/
theorem REP.tl {tg pl : Nat → Nat} {n k : Nat} {sh : Nat → jv_S} {V C : Nat → Nat → Int32} {N K R : Nat} {x : Int32} (H : REP tg pl n sh V C N K R) (hk : k < K) (hx : x = 0 ∨ x = 1) : REP tg pl n sh (jv_U V (pl (10 + k)) 4 x) (jv_U C (20 + 2 * k) 0 x) N K R := by
  have hu : used K R (10 + k) := used.l hk
  have hK4 := H.K4
  refine H.upd hu (jv_Une (by omega)) (fun q ρ' hu' hne hq => jv_U_other (fun c => by unfold rowOf at hq; unfold used at hu'; omega)) ?_
  obtain ⟨b1, b2, lo, hi, ev, wt, a0, a1, a2, a3, c1, c2, c3, c4, c5, c6, d0, d1, d2, d3⟩ := H.lf hk
  refine ⟨fun _ _ => by omega, fun c => by omega, fun c => by omega, fun k' _ c => ?_, fun j _ c => by omega, fun j o _ _ _ c => by omega, fun j _ c => by omega⟩
  have ek : k' = k := by omega
  subst ek
  refine ⟨b1, b2, lo, hi, ev, wt, ?_, ?_, ?_, ?_, c1, c2, c3, c4, c5, c6, ?_, ?_, ?_, fun c hc => ?_⟩
  · rw [jv_Unj (by decide)]; exact a0
  · rw [jv_Unj (by decide)]; exact a1
  · rw [jv_Unj (by decide)]; exact a2
  · rw [jv_Unj (by decide)]; exact a3
  · rw [jv_Ueq]; exact hx
  · rw [jv_Ueq, jv_Ueq]
  · rw [jv_Unj (by decide)]; exact d2
  · rw [jv_Une (by omega)]; exact d3 c hc
/-- a lift more: its row at the place n0, the lifts' new row at n0 + 1 -/
theorem REP.li {tg pl : Nat → Nat} {n0 : Nat} {sh0 s1 : Nat → jv_S} {V0 V1 C C1 : Nat → Nat → Int32} {N K R : Nat} (H : REP tg pl n0 sh0 V0 C N K R) (hK : K < 4) (h2 : ∀ q, q ≠ 123 → q < n0 → s1 q = sh0 q) (h2V : ∀ q, q < n0 → V1 q = V0 q) (h123 : (s1 123).1 = 7) (hr : ∀ i, i ≠ 5 → (s1 123).2.2 i = (sh0 123).2.2 i) (h5 : (s1 123).2.2 5 = some (n0 + 1)) (hk1 : (s1 n0).1 = 10) (hn1 : (s1 n0).2.1 = 5) (hk2 : (s1 (n0 + 1)).1 = 15) (hn2 : (s1 (n0 + 1)).2.1 = K + 1) (hrf : ∀ k, k < K → (s1 (n0 + 1)).2.2 k = (sh0 (pl 7)).2.2 k) (hrK : (s1 (n0 + 1)).2.2 K = some n0)
    (hLF : LF (V1 n0) C1 N K) (hC : ∀ q, ¬ (q = 20 + 2 * K ∨ q = 20 + 2 * K + 1) → (2 ≤ q ∧ q ≤ 5) ∨ (20 ≤ q ∧ q < 28) ∨ (43 ≤ q ∧ q < 123) → C1 q = C q) (hC0 : C1 0 5 = C 0 5) :
    REP (up1 (up1 tg n0 (10 + K)) (n0 + 1) 7) (up1 (up1 pl 7 (n0 + 1)) (10 + K) n0) (n0 + 2) s1 V1 C1 N (K + 1) R := by
  have hn := H.n124
  refine H.re (by omega) H.R8 (by omega) (fun q a b => ⟨h2 q (by omega) b, h2V q b⟩) (fun q a => by rw [up1_n (by omega), up1_n (by omega)]) (fun q hq => ?_) ?_ (fun ρ => ρ = 7 ∨ ρ = 10 + K) (fun ρ hu e => ?_) (fun ρ hu e => ?_)
  · by_cases c : n0 ≤ q
    · omega
    · rw [up1_n (by omega), up1_n (by omega)] at hq
      exact H.e124 hq
  · refine ⟨h123, fun i a b => ?_, ?_, ?_, ?_⟩
    · rw [hr _ (by omega), up1_n (by omega), up1_n (by omega)]
      exact H.2.2.1.2.1 i a b
    · rw [up1_n (by omega), up1_e]
      exact h5
    · rw [hr 6 (by decide), up1_n (by omega), up1_n (by omega)]
      exact H.s6
    · rw [h2V 123 (by omega), hC0]
      exact H.hr
  · by_cases e7 : ρ = 7
    · subst e7
      rw [show up1 (up1 pl 7 (n0 + 1)) (10 + K) n0 7 = n0 + 1 by rw [up1_n (by omega), up1_e], up1_e]
      refine ⟨⟨rfl, by omega, by omega⟩, fun _ c => by omega, fun _ => ?_, fun c => by omega, fun k _ c => by omega, fun j _ c => by omega, fun j o _ _ _ c => by omega, fun j _ c => by omega⟩
      rw [show up1 (up1 pl 7 (n0 + 1)) (10 + K) n0 7 = n0 + 1 by rw [up1_n (by omega), up1_e]]
      refine ⟨hk2, hn2, fun k hk => ?_⟩
      by_cases c : k = K
      · subst c
        rw [up1_e]
        exact hrK
      · rw [hrf k (by omega), up1_n (by omega), up1_n (by omega)]
        exact H.q7.2.2 k (by omega)
    · have eK : ρ = 10 + K := e.resolve_left e7
      subst eK
      rw [up1_e, up1_n (show n0 ≠ n0 + 1 by omega), up1_e]
      refine ⟨⟨rfl, by omega, by omega⟩, fun _ c => by omega, fun c => by omega, fun c => by omega, fun k _ c => ?_, fun j _ c => by omega, fun j o _ _ _ c => by omega, fun j _ c => by omega⟩
      have ek : k = K := by omega
      subst ek
      rw [up1_e]
      exact ⟨hk1, hn1, hLF⟩
  · have h7 : ρ ≠ 7 := fun c => e (Or.inl c)
    have hK' : ρ ≠ 10 + K := fun c => e (Or.inr c)
    refine ⟨by unfold used at hu ⊢; omega, by rw [up1_n hK', up1_n h7], fun c => absurd c h7, fun _ => rfl, fun ρ' hc => by rw [up1_n (by unfold child at hc; omega), up1_n (by unfold child at hc; omega)], fun q hq => hC q ?_ ?_⟩
    · unfold rowOf at hq
      unfold used at hu
      omega
    · have := H.R8
      unfold rowOf at hq
      unfold used at hu
      omega
/-- a rumour more: its object at the place n0, its rows behind it, the rumours' new row at n0 + 8 -/
theorem REP.ru {tg pl : Nat → Nat} {n0 : Nat} {sh0 s1 : Nat → jv_S} {V0 V1 C C1 : Nat → Nat → Int32} {N K R : Nat} (H : REP tg pl n0 sh0 V0 C N K R) (hR : R < 8) (h2 : ∀ q, q ≠ 123 → q < n0 → s1 q = sh0 q) (h2V : ∀ q, q < n0 → V1 q = V0 q) (h123 : (s1 123).1 = 7) (hr : ∀ i, i ≠ 6 → (s1 123).2.2 i = (sh0 123).2.2 i) (h6 : (s1 123).2.2 6 = some (n0 + 8))
    (hob : (s1 n0).1 = 6) (hb0 : V1 n0 0 = C1 (43 + 10 * R) 0) (hb1 : V1 n0 1 = C1 (43 + 10 * R) 1) (hob8 : (s1 n0).2.2 8 = some (n0 + 1)) (hrow : ∀ o, 1 ≤ o → o ≤ 6 → (s1 n0).2.2 (o + 1) = some (n0 + 1 + o) ∧ (s1 (n0 + 1 + o)).1 = 10 ∧ (s1 (n0 + 1 + o)).2.1 = N ∧ ∀ f, f < N → V1 (n0 + 1 + o) f = C1 (43 + 10 * R + o) f) (hwk : (s1 (n0 + 1)).1 = 15) (hwn : (s1 (n0 + 1)).2.1 = 0)
    (hk2 : (s1 (n0 + 8)).1 = 12) (hn2 : (s1 (n0 + 8)).2.1 = R + 1) (hrf : ∀ j, j < R → (s1 (n0 + 8)).2.2 j = (sh0 (pl 8)).2.2 j) (hrR : (s1 (n0 + 8)).2.2 R = some n0)
    (hW : ∀ f, f < N → C1 (43 + 10 * R + 7) f = -1 ∧ C1 (43 + 10 * R + 9) f = -1) (hC : ∀ q, ¬ (43 + 10 * R ≤ q ∧ q ≤ 52 + 10 * R) → (2 ≤ q ∧ q ≤ 5) ∨ (20 ≤ q ∧ q < 28) ∨ (43 ≤ q ∧ q < 123) → C1 q = C q) (hC0 : C1 0 5 = C 0 5) :
    ∃ tg1 pl1, REP tg1 pl1 (n0 + 9) s1 V1 C1 N K (R + 1) ∧ pl1 (20 + 10 * R) = n0 := by
  have hn := H.n124
  let pl1 : Nat → Nat := fun ρ => if ρ = 8 then n0 + 8 else if ρ = 20 + 10 * R then n0 else if ρ = 20 + 10 * R + 7 then n0 + 1 else if 20 + 10 * R < ρ ∧ ρ < 20 + 10 * R + 7 then n0 + 1 + (ρ - (20 + 10 * R)) else pl ρ
  let tg1 : Nat → Nat := fun q => if q < n0 then tg q else if q = n0 + 8 then 8 else if q = n0 then 20 + 10 * R else if q = n0 + 1 then 20 + 10 * R + 7 else if q < n0 + 8 then 20 + 10 * R + (q - (n0 + 1)) else 0
  have p8 : pl1 8 = n0 + 8 := if_pos rfl
  have pb : pl1 (20 + 10 * R) = n0 := by show (if _ then _ else if _ then _ else _) = _; rw [if_neg (by omega), if_pos rfl]
  have p7 : pl1 (20 + 10 * R + 7) = n0 + 1 := by show (if _ then _ else if _ then _ else if _ then _ else _) = _; rw [if_neg (by omega), if_neg (by omega), if_pos rfl]
  have po : ∀ o, 1 ≤ o → o ≤ 6 → pl1 (20 + 10 * R + o) = n0 + 1 + o := fun o a b => by
    show (if _ then _ else if _ then _ else if _ then _ else if _ then _ else _) = _
    rw [if_neg (by omega), if_neg (by omega), if_neg (by omega), if_pos (by omega)]
    omega
  have pn : ∀ ρ, ρ ≠ 8 → ¬ (20 + 10 * R ≤ ρ ∧ ρ ≤ 20 + 10 * R + 7) → pl1 ρ = pl ρ := fun ρ a b => by
    show (if _ then _ else if _ then _ else if _ then _ else if _ then _ else _) = _
    rw [if_neg a, if_neg (by omega), if_neg (by omega), if_neg (by omega)]
  have t0 : ∀ q, q < n0 → tg1 q = tg q := fun q a => if_pos a
  have t8 : tg1 (n0 + 8) = 8 := by show (if _ then _ else if _ then _ else _) = _; rw [if_neg (by omega), if_pos rfl]
  have tb : tg1 n0 = 20 + 10 * R := by show (if _ then _ else if _ then _ else if _ then _ else _) = _; rw [if_neg (by omega), if_neg (by omega), if_pos rfl]
  have t7 : tg1 (n0 + 1) = 20 + 10 * R + 7 := by show (if _ then _ else if _ then _ else if _ then _ else if _ then _ else _) = _; rw [if_neg (by omega), if_neg (by omega), if_neg (by omega), if_pos rfl]
  have to : ∀ o, 1 ≤ o → o ≤ 6 → tg1 (n0 + 1 + o) = 20 + 10 * R + o := fun o a b => by
    show (if _ then _ else if _ then _ else if _ then _ else if _ then _ else if _ then _ else _) = _
    rw [if_neg (by omega), if_neg (by omega), if_neg (by omega), if_neg (by omega), if_pos (by omega)]
    omega
  refine ⟨tg1, pl1, ?_, pb⟩
  clear_value tg1 pl1
  refine H.re H.K4 (by omega) (by omega) (fun q a b => ⟨h2 q (by omega) b, h2V q b⟩) t0 (fun q hq => ?_) ?_ (fun ρ => ρ = 8 ∨ (20 + 10 * R ≤ ρ ∧ ρ ≤ 20 + 10 * R + 7)) (fun ρ hu e => ?_) (fun ρ hu e => ?_)
  · by_cases c : n0 ≤ q
    · omega
    · rw [t0 q (by omega)] at hq
      exact H.e124 hq
  · refine ⟨h123, fun i a b => ?_, ?_, ?_, ?_⟩
    · rw [hr _ (by omega), pn i (by omega) (by omega)]
      exact H.2.2.1.2.1 i a b
    · rw [hr 5 (by decide), pn 7 (by omega) (by omega)]
      exact H.s5
    · rw [p8]
      exact h6
    · rw [h2V 123 (by omega), hC0]
      exact H.hr
  · by_cases e8 : ρ = 8
    · subst e8
      rw [p8, t8]
      refine ⟨⟨rfl, by omega, by omega⟩, fun _ c => by omega, fun c => by omega, fun _ => ?_, fun k _ c => by omega, fun j _ c => by omega, fun j o _ _ _ c => by omega, fun j _ c => by omega⟩
      rw [p8]
      refine ⟨hk2, hn2, fun j hj => ?_⟩
      by_cases c : j = R
      · subst c
        rw [pb]
        exact hrR
      · rw [hrf j (by omega), pn _ (by omega) (by omega)]
        exact H.q8.2.2 j (by omega)
    · have eR := e.resolve_left e8
      by_cases eb : ρ = 20 + 10 * R
      · subst eb
        rw [pb, tb]
        refine ⟨⟨rfl, by omega, by omega⟩, fun _ c => by omega, fun c => by omega, fun c => by omega, fun k hk c => by have := H.K4; omega, fun j _ c => ?_, fun j o _ _ _ c => by omega, fun j _ c => by omega⟩
        have ej : j = R := by omega
        subst ej
        rw [pb]
        refine ⟨hob, hb0, hb1, fun o a b => ?_⟩
        by_cases c7 : o = 7
        · subst c7
          rw [p7]
          exact hob8
        · rw [po o a (by omega)]
          exact (hrow o a (by omega)).1
      · by_cases e7 : ρ = 20 + 10 * R + 7
        · subst e7
          rw [p7, t7]
          refine ⟨⟨rfl, by omega, by omega⟩, fun _ c => by omega, fun c => by omega, fun c => by omega, fun k hk c => by have := H.K4; omega, fun j _ c => by omega, fun j o _ _ _ c => by omega, fun j _ c => ?_⟩
          have ej : j = R := by omega
          subst ej
          rw [p7]
          refine ⟨[], ⟨hwk, hwn, by omega, fun i x hx => by simp at hx⟩, fun x hx => by simp at hx, List.Pairwise.nil, fun f hf h m => ?_, fun f hf h m => ?_⟩
          · rw [(hW f hf).1]
            constructor
            · intro hx; simp at hx
            · rintro ⟨a, b, -⟩; exact absurd a.symm b
          · rw [(hW f hf).2]
            constructor
            · intro hx; simp at hx
            · rintro ⟨a, b, -⟩; exact absurd a.symm b
        · obtain ⟨o, ho1, ho6, rfl⟩ : ∃ o, 1 ≤ o ∧ o ≤ 6 ∧ ρ = 20 + 10 * R + o := ⟨ρ - (20 + 10 * R), by omega, by omega, by omega⟩
          rw [po o ho1 ho6, to o ho1 ho6]
          refine ⟨⟨rfl, by omega, by omega⟩, fun _ c => by omega, fun c => by omega, fun c => by omega, fun k hk c => by have := H.K4; omega, fun j _ c => by omega, fun j o' _ a b c => ?_, fun j _ c => by omega⟩
          have ej : j = R := by omega
          have eo : o' = o := by omega
          subst ej
          subst eo
          rw [po o' ho1 ho6]
          exact (hrow o' ho1 ho6).2
  · have h8 : ρ ≠ 8 := fun c => e (Or.inl c)
    have hb : ¬ (20 + 10 * R ≤ ρ ∧ ρ ≤ 20 + 10 * R + 7) := fun c => e (Or.inr c)
    refine ⟨by unfold used at hu ⊢; omega, pn ρ h8 hb, fun _ => rfl, fun c => absurd c h8, fun ρ' hc => pn ρ' ?_ ?_, fun q hq => hC q ?_ ?_⟩
    · unfold child at hc
      unfold used at hu
      omega
    · unfold child at hc
      unfold used at hu
      have := H.K4
      omega
    · unfold rowOf at hq
      unfold used at hu
      have := H.K4
      omega
    · have := H.R8
      have := H.K4
      unfold rowOf at hq
      unfold used at hu
      omega
/-- another tower: all is new -/
theorem REP.bu {n : Nat} {s1 : Nat → jv_S} {V1 C1 : Nat → Nat → Int32} {N : Nat} (hN2 : 2 ≤ N) (hN12 : N ≤ 12) (hn : 124 ≤ n) (h123 : (s1 123).1 = 7) (h1 : ∀ i, 1 ≤ i → i ≤ 6 → (s1 123).2.2 i = some (n + (i - 1))) (hh : V1 123 0 = C1 0 5)
    (hrow : ∀ i, 2 ≤ i → i ≤ 5 → (s1 (n + (i - 2))).1 = (if i = 5 then 11 else 10) ∧ (s1 (n + (i - 2))).2.1 = tlen N i ∧ ∀ f, f < tlen N i → V1 (n + (i - 2)) f = C1 i f) (hk7 : (s1 (n + 4)).1 = 15) (hn7 : (s1 (n + 4)).2.1 = 0) (hk8 : (s1 (n + 5)).1 = 12) (hn8 : (s1 (n + 5)).2.1 = 0) : ∃ tg1 pl1, REP tg1 pl1 (n + 6) s1 V1 C1 N 0 0 := by
  let pl1 : Nat → Nat := fun ρ => if ρ = 7 then n + 4 else if ρ = 8 then n + 5 else n + (ρ - 2)
  let tg1 : Nat → Nat := fun q => if q < n then 0 else if q = n + 4 then 7 else if q = n + 5 then 8 else (q - n) + 2
  have p7 : pl1 7 = n + 4 := if_pos rfl
  have p8 : pl1 8 = n + 5 := by show (if _ then _ else if _ then _ else _) = _; rw [if_neg (by omega), if_pos rfl]
  have pt : ∀ i, 2 ≤ i → i ≤ 5 → pl1 i = n + (i - 2) := fun i a b => by show (if _ then _ else if _ then _ else _) = _; rw [if_neg (by omega), if_neg (by omega)]
  have t7 : tg1 (n + 4) = 7 := by show (if _ then _ else if _ then _ else _) = _; rw [if_neg (by omega), if_pos rfl]
  have t8 : tg1 (n + 5) = 8 := by show (if _ then _ else if _ then _ else if _ then _ else _) = _; rw [if_neg (by omega), if_neg (by omega), if_pos rfl]
  have tt : ∀ i, 2 ≤ i → i ≤ 5 → tg1 (n + (i - 2)) = i := fun i a b => by
    show (if _ then _ else if _ then _ else if _ then _ else _) = _
    rw [if_neg (by omega), if_neg (by omega), if_neg (by omega)]
    omega
  have t1 : ∀ q, tg1 q = 1 → 124 ≤ q := fun q hq => by
    by_cases c : q < n
    · have : tg1 q = 0 := if_pos c
      omega
    · omega
  refine ⟨tg1, pl1, ⟨hN2, hN12, by omega, by omega, by omega, t1⟩, ?_⟩
  clear_value tg1 pl1
  refine ⟨fun ρ hu => ?_, ⟨h123, fun i a b => ?_, by rw [p7]; exact h1 5 (by decide) (by decide), by rw [p8]; exact h1 6 (by decide) (by decide), hh⟩, fun ρ hu => ?_⟩
  · have hc : (2 ≤ ρ ∧ ρ ≤ 5) ∨ ρ = 7 ∨ ρ = 8 := by unfold used at hu; omega
    rcases hc with hc | hc | hc
    · rw [pt ρ hc.1 hc.2, tt ρ hc.1 hc.2]
      exact ⟨rfl, by omega, by omega⟩
    · subst hc
      rw [p7, t7]
      exact ⟨rfl, by omega, by omega⟩
    · subst hc
      rw [p8, t8]
      exact ⟨rfl, by omega, by omega⟩
  · rw [pt i a b, h1 (i - 1) (by omega) (by omega)]
    congr 1
  · have hc : (2 ≤ ρ ∧ ρ ≤ 5) ∨ ρ = 7 ∨ ρ = 8 := by unfold used at hu; omega
    refine ⟨fun a b => ?_, fun c => ?_, fun c => ?_, fun k hk _ => by omega, fun j hj _ => by omega, fun j o hj _ _ _ => by omega, fun j hj _ => by omega⟩
    · rw [pt ρ a b]
      exact hrow ρ a b
    · subst c
      rw [p7]
      exact ⟨hk7, hn7, fun k hk => by omega⟩
    · subst c
      rw [p8]
      exact ⟨hk8, hn8, fun k hk => by omega⟩
