/-! ===== class and reference alike: pipes ===== -/
/-- the lifts of both sides are alike -/
def LiA (V : Nat → Nat → Int32) (K : Nat) : Prop := ∀ k, k < K → ∃ lo hi ev wt, V 128 k = nI lo ∧ V 129 k = nI hi ∧ V 130 k = nI ev ∧ V 131 k = nI wt ∧ lo < hi ∧ hi < 12 ∧ 1 ≤ ev ∧ ev ≤ hi - lo ∧ 1 ≤ wt ∧ wt ≤ 9 ∧ (∀ c, c < 12 → V (20 + 2 * k + 1) c = stp lo hi ev c) ∧ V (20 + 2 * k) 0 = V 132 k ∧ V (20 + 2 * k) 1 = nI wt ∧ (V 132 k = 0 ∨ V 132 k = 1)
theorem svB_stp {V : Nat → Nat → Int32} {k lo hi ev c : Nat} (h1 : V 128 k = nI lo) (h2 : V 129 k = nI hi) (h3 : V 130 k = nI ev) (hl : lo < hi) (hh : hi < 12) (he : 1 ≤ ev) (he2 : ev ≤ 12) (hc : c < 12) : svB V k (nI c) = decide (¬ stp lo hi ev c = 0) := by
  unfold svB
  rw [h1, h2, h3]
  by_cases hin : lo ≤ c ∧ c ≤ hi
  · rw [inN_ok hin.1 hin.2 (by omega), pk_sub hin.1, pk_rem (by omega) (by omega) (by omega), Bool.true_and]
    by_cases hm : (c - lo) % ev = 0
    · rw [hm, decide_eq_true nI_0]
      symm
      apply decide_eq_true
      unfold stp
      rw [if_pos (by first | exact ⟨hin.1, hin.2, hm⟩ | exact ⟨⟨hin.1, hin.2⟩, hm⟩)]
      exact nI1_ne
    · have hlt : (c - lo) % ev < ev := Nat.mod_lt _ (by omega)
      rw [decide_eq_false (nI_ne0 (Nat.pos_of_ne_zero hm) (by omega))]
      symm
      apply decide_eq_false
      unfold stp
      rw [if_neg (fun d => by first | exact hm d.2.2 | exact hm d.2)]
      exact fun d => d nI_0
  · have e : inB (nI c) (nI lo) (nI hi) = false := by
      unfold inB
      apply decide_eq_false
      rintro ⟨a, b⟩
      apply hin
      rw [nI_ltI (by omega) (by omega)] at a b
      omega
    rw [e, Bool.false_and]
    symm
    apply decide_eq_false
    unfold stp
    rw [if_neg (fun d => hin (by first | exact ⟨d.1, d.2.1⟩ | exact d.1))]
    exact fun d => d nI_0
theorem hoL_fhL {V : Nat → Nat → Int32} {K a b lw hg : Nat} (hL : LiA V K) (hlh : lw < hg) (hh : hg < 12) (hab : (a = lw ∧ b = hg) ∨ (a = hg ∧ b = lw)) : ∀ m i acc, i + m ≤ K → hoL V a b (hg - lw) m i acc = fhL V lw hg m i acc := by
  intro m
  induction m with
  | zero => intro i acc _; rfl
  | succ m ih =>
    intro i acc hi
    unfold hoL fhL
    rw [ih _ _ (by omega)]
    congr 1
    obtain ⟨lo, hi', ev, wt, e1, e2, e3, e4, c1, c2, c3, c4, c5, c6, c7, c8, c9, c10⟩ := hL i (by omega)
    have sa : svB V i (nI lw) = decide (¬ V (20 + 2 * i + 1) lw = 0) := by rw [c7 lw (by omega)]; exact svB_stp e1 e2 e3 c1 c2 c3 (by omega) (by omega)
    have sb : svB V i (nI hg) = decide (¬ V (20 + 2 * i + 1) hg = 0) := by rw [c7 hg (by omega)]; exact svB_stp e1 e2 e3 c1 c2 c3 (by omega) (by omega)
    have hw : ¬ nI wt + nI ((hg - lw) / 2) = -1 := by rw [nI_add]; exact nI_nm1 (by omega)
    have key : (¬ V 132 i = 0 ∧ svB V i (nI a) = true ∧ svB V i (nI b) = true) ↔ (¬ V (20 + 2 * i) 0 = 0 ∧ ¬ V (20 + 2 * i + 1) lw = 0 ∧ ¬ V (20 + 2 * i + 1) hg = 0) := by
      rw [c8]
      rcases hab with ⟨rfl, rfl⟩ | ⟨rfl, rfl⟩
      · rw [sa, sb, decide_eq_true_iff, decide_eq_true_iff]
      · rw [sa, sb, decide_eq_true_iff, decide_eq_true_iff]
        constructor
        · rintro ⟨x, y, z⟩; exact ⟨x, z, y⟩
        · rintro ⟨x, y, z⟩; exact ⟨x, z, y⟩
    unfold hrs
    rw [e4, c9]
    by_cases hc : ¬ V (20 + 2 * i) 0 = 0 ∧ ¬ V (20 + 2 * i + 1) lw = 0 ∧ ¬ V (20 + 2 * i + 1) hg = 0
    · rw [if_pos (key.mpr hc)]
      simp only [if_pos hc]
      by_cases ha : acc = -1
      · rw [if_pos ha, if_pos ⟨hw, Or.inl ha⟩]
      · rw [if_neg ha]
        by_cases hlt : nI wt + nI ((hg - lw) / 2) < acc
        · rw [if_pos hlt, if_pos ⟨hw, Or.inr hlt⟩]
        · rw [if_neg hlt, if_neg (fun d => d.2.elim ha hlt)]
    · rw [if_neg (fun d => hc (key.mp d))]
      simp only [if_neg hc]
      rw [if_neg (fun d => absurd d.1 (by simp))]
/-- stairs of both sides alike -/
def StA (V : Nat → Nat → Int32) : Prop := ∀ f, f < 12 → V 4 f = V 126 f ∧ V 5 f = V 127 f
theorem hoM_fh {V : Nat → Nat → Int32} {K lw hg : Nat} (hL : LiA V K) (hS : StA V) (hlh : lw < hg) (hh : hg < 12) : hoM V K lw hg = fh V K lw hg ∧ hoM V K hg lw = fh V K lw hg := by
  obtain ⟨s1, s2⟩ := hS lw (by omega)
  constructor
  · unfold hoM hoX fh
    rw [if_neg (by omega), Nat.min_eq_left (by omega), Nat.max_eq_right (by omega), hoL_fhL hL hlh hh (Or.inl ⟨rfl, rfl⟩) _ _ _ (by omega), s1, s2]
  · unfold hoM hoX fh
    rw [if_neg (by omega), Nat.min_eq_right (by omega), Nat.max_eq_left (by omega), hoL_fhL hL hlh hh (Or.inr ⟨rfl, rfl⟩) _ _ _ (by omega), s1, s2]
theorem hoM_self {V : Nat → Nat → Int32} {K a : Nat} : hoM V K a a = -1 := by
  unfold hoM hoX
  rw [if_pos rfl]
/-- the class's rows of pipes say what the reference reckons -/
def PiA (V : Nat → Nat → Int32) (N K : Nat) : Prop := ∀ a b, a < N → b < N → V (8 + a) b = hoM V K a b
theorem layX_hoM {V : Nat → Nat → Int32} {K a b : Nat} (hL : LiA V K) (hS : StA V) (ha : a < 12) (hb : b < 12) : layX V K (8 + a) b = hoM V K a b := by
  unfold layX
  by_cases e : a = b
  · subst e; rw [if_pos rfl, hoM_self]
  · rw [if_neg (by omega)]
    by_cases h : a < b
    · rw [if_pos (by omega), (hoM_fh hL hS h hb).1, show 8 + a - 8 = a by omega]
    · rw [if_neg (by omega), (hoM_fh hL hS (by omega : b < a) ha).2, show 8 + a - 8 = a by omega]
theorem layV_PiA {V : Nat → Nat → Int32} {N K : Nat} (hL : LiA V K) (hS : StA V) (hN : N ≤ 12) : PiA (layV V N K) N K := by
  intro a b ha hb
  have e : hoM (layV V N K) K a b = hoM V K a b := hoM_congr (fun q h1 h2 => layV_out (by omega))
  rw [e]
  unfold layV
  rw [if_pos ⟨by omega, by omega, hb⟩]
  exact layX_hoM hL hS (by omega) (by omega)
