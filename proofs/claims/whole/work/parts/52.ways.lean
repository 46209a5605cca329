/-! ===== ways on both sides (V the class's memory, W the reference's) ===== -/
theorem nrs_alike {V W : Nat → Nat → Int32} {N : Nat} (H : ∀ c, c < N → V 29 c = W 137 c ∧ (¬ V 29 c = -1 → V 30 c = W 138 c) ∧ (V 31 c = 0 ↔ W 139 c = 0)) : ∀ m i b, i + m ≤ N → (∀ j, b = some j → j < N ∧ ¬ V 29 j = -1) → nrs V 29 30 31 m i b = nrs W 137 138 139 m i b := by
  intro m
  induction m with
  | zero => intro i b _ _; rfl
  | succ m ih =>
    intro i b hi hb
    obtain ⟨e1, e2, e3⟩ := H i (by omega)
    have hc : ((V 31 i = 0 ∧ ¬ V 29 i = -1) ∧ btb V 29 30 b i = true) ↔ ((W 139 i = 0 ∧ ¬ W 137 i = -1) ∧ btb W 137 138 b i = true) := by
      rw [← e1, ← e3]
      constructor
      · rintro ⟨⟨a1, a2⟩, a3⟩
        refine ⟨⟨a1, a2⟩, ?_⟩
        cases b with
        | none => rfl
        | some j =>
          obtain ⟨j1, j2⟩ := hb j rfl
          obtain ⟨f1, f2, f3⟩ := H j j1
          unfold btb btI at a3 ⊢
          simp only [] at a3 ⊢
          rw [← e1, ← e2 a2, ← f1, ← f2 j2]
          exact a3
      · rintro ⟨⟨a1, a2⟩, a3⟩
        refine ⟨⟨a1, a2⟩, ?_⟩
        cases b with
        | none => rfl
        | some j =>
          obtain ⟨j1, j2⟩ := hb j rfl
          obtain ⟨f1, f2, f3⟩ := H j j1
          unfold btb btI at a3 ⊢
          simp only [] at a3 ⊢
          rw [← e1, ← e2 a2, ← f1, ← f2 j2] at a3
          exact a3
    show nrs V 29 30 31 m (i + 1) _ = nrs W 137 138 139 m (i + 1) _
    by_cases h : (V 31 i = 0 ∧ ¬ V 29 i = -1) ∧ btb V 29 30 b i = true
    · rw [if_pos h, if_pos (hc.mp h)]
      exact ih _ _ (by omega) (fun j hj => by cases hj; exact ⟨by omega, h.1.2⟩)
    · rw [if_neg h, if_neg (fun d => h (hc.mpr d))]
      exact ih _ _ (by omega) hb
theorem nrs_in {V : Nat → Nat → Int32} {h p s a : Nat} : ∀ m i b, nrs V h p s m i b = some a → b = some a ∨ (i ≤ a ∧ a < i + m ∧ V s a = 0 ∧ ¬ V h a = -1) := by
  intro m
  induction m with
  | zero => intro i b e; exact Or.inl e
  | succ m ih =>
    intro i b e
    have e' : nrs V h p s m (i + 1) (if (V s i = 0 ∧ ¬ V h i = -1) ∧ btb V h p b i = true then some i else b) = some a := e
    rcases ih _ _ e' with h1 | ⟨h1, h2, h3, h4⟩
    · split at h1
      · rename_i hc
        cases h1
        exact Or.inr ⟨by omega, by omega, hc.1.1, hc.1.2⟩
      · exact Or.inl h1
    · exact Or.inr ⟨by omega, by omega, h3, h4⟩
theorem nrs_min {V : Nat → Nat → Int32} {h p s a : Nat} : ∀ m i b, nrs V h p s m i b = some a → (∀ c, i ≤ c → c < i + m → V s c = 0 → ¬ V h c = -1 → V h a ≤ V h c) ∧ (∀ j, b = some j → V h a ≤ V h j) := by
  intro m
  induction m with
  | zero =>
    intro i b e
    refine ⟨fun c h1 h2 => by omega, fun j hj => ?_⟩
    have e' : b = some a := e
    rw [hj] at e'
    cases e'
    exact Int32.le_refl _
  | succ m ih =>
    intro i b e
    have e' : nrs V h p s m (i + 1) (if (V s i = 0 ∧ ¬ V h i = -1) ∧ btb V h p b i = true then some i else b) = some a := e
    obtain ⟨k1, k2⟩ := ih _ _ e'
    by_cases hc : (V s i = 0 ∧ ¬ V h i = -1) ∧ btb V h p b i = true
    · rw [if_pos hc] at k2
      have ki := k2 i rfl
      refine ⟨fun c h1 h2 h3 h4 => ?_, fun j hj => ?_⟩
      · by_cases ec : c = i
        · subst ec; exact ki
        · exact k1 c (by omega) (by omega) h3 h4
      · subst hj
        have hb := hc.2
        unfold btb btI at hb
        simp only [Bool.or_eq_true, Bool.and_eq_true, decide_eq_true_eq] at hb
        rcases hb with hb | ⟨hb, -⟩
        · exact Int32.le_trans ki (Int32.le_of_lt hb)
        · rw [← hb]; exact ki
    · rw [if_neg hc] at k2
      refine ⟨fun c h1 h2 h3 h4 => ?_, k2⟩
      by_cases ec : c = i
      · subst ec
        cases b with
        | none => exact absurd ⟨⟨h3, h4⟩, rfl⟩ hc
        | some j =>
          have kj := k2 j rfl
          refine Int32.le_trans kj (Int32.not_lt.mp (fun hlt => hc ⟨⟨h3, h4⟩, ?_⟩))
          unfold btb btI
          simp only [Bool.or_eq_true, Bool.and_eq_true, decide_eq_true_eq]
          exact Or.inl hlt
      · exact k1 c (by omega) (by omega) h3 h4
/-- what ways rest on: pipes and stays of both sides alike, and small -/
def WP (V W : Nat → Nat → Int32) (N K : Nat) : Prop := (∀ a b, a < N → b < N → V (8 + a) b = hoM W K a b ∧ (hoM W K a b = -1 ∨ ∃ p, hoM W K a b = nI p ∧ 1 ≤ p ∧ p ≤ 14)) ∧ ∀ a, a < N → V 3 a = W 125 a ∧ ∃ s, W 125 a = nI s ∧ s ≤ 9
theorem WP.to {V W V' W' : Nat → Nat → Int32} {N K : Nat} (H : WP V W N K) (hN : N ≤ 12) (hV : ∀ q, q < 29 → V' q = V q) (hW : ∀ q, 124 ≤ q → q ≤ 134 → W' q = W q) : WP V' W' N K := by
  obtain ⟨a, b⟩ := H
  refine ⟨fun p q hp hq => ?_, fun p hp => ?_⟩
  · rw [hV _ (by omega), hoM_congr (V := W) (fun q h1 h2 => hW q (by omega) (by omega))]; exact a p q hp hq
  · rw [hV _ (by omega), hW _ (by omega) (by omega)]; exact b p hp
/-- both sides' ways between two rounds: M parts what is settled from what isn't -/
def RW (V W : Nat → Nat → Int32) (N B M : Nat) : Prop := ∀ c, c < N → V 29 c = W 137 c ∧ (V 31 c = 0 ↔ W 139 c = 0) ∧ ((V 29 c = -1 ∧ V 30 c = -1 ∧ V 31 c = 0) ∨ ∃ t u, V 29 c = nI t ∧ V 30 c = nI u ∧ W 138 c = nI u ∧ t ≤ 23 * B ∧ u ≤ B ∧ (¬ V 31 c = 0 → t ≤ M) ∧ (V 31 c = 0 → M ≤ t))
theorem RW.ne {t : Nat} {x : Int32} (h : x = nI t) (ht : t < 2 ^ 31) : ¬ x = -1 := by rw [h]; exact nI_nm1 ht
theorem RW.near {V W : Nat → Nat → Int32} {N B M : Nat} (H : RW V W N B M) (hB : B ≤ 12) : nrs V 29 30 31 N 0 none = nrs W 137 138 139 N 0 none := by
  refine nrs_alike (N := N) (fun c hc => ?_) N 0 none (by omega) (fun j hj => by cases hj)
  obtain ⟨h1, h2, h3⟩ := H c hc
  refine ⟨h1, fun hn => ?_, h2⟩
  rcases h3 with h3 | ⟨t, u, e1, e2, e3, -⟩
  · exact absurd h3.1 hn
  · rw [e2, e3]
theorem RW.step {V W : Nat → Nat → Int32} {N K B a i ta ua : Nat} (H : RW V W N (B + 1) ta) (P : WP V W N K) (hB : B ≤ 12) (ha : a < N) (hi : i < N) (h1 : V 29 a = nI ta) (h2 : V 30 a = nI ua) (h3 : ¬ V 31 a = 0) (h4 : ta ≤ 23 * B) (h5 : ua ≤ B) :
    RW (ldb V 29 30 a i (V (8 + a) i) (V 3 a)) (rlb W K a i) N (B + 1) ta ∧ ldb V 29 30 a i (V (8 + a) i) (V 3 a) 29 a = nI ta ∧ ldb V 29 30 a i (V (8 + a) i) (V 3 a) 30 a = nI ua ∧ ldb V 29 30 a i (V (8 + a) i) (V 3 a) 31 = V 31 := by
  obtain ⟨p1, p2⟩ := P.1 a i ha hi
  obtain ⟨s1, s, s2, s3⟩ := P.2 a ha
  obtain ⟨g1, g2, g3⟩ := H i hi
  obtain ⟨a1, a2, a3⟩ := H a ha
  have w138 : W 138 a = nI ua := by
    rcases a3 with a3 | ⟨t, u, e1, e2, e3, -⟩
    · exact absurd a3.1 (RW.ne h1 (by omega))
    · rw [e3, ← e2, h2]
  unfold ldb rlb
  rw [p1, s1, s2, h1, h2, ← a1, h1, w138]
  rcases p2 with p2 | ⟨p, p2, p3, p4⟩
  · rw [p2, if_neg (fun c => c.1 rfl), if_neg (fun c => c.1 rfl)]
    exact ⟨H, h1, h2, rfl⟩
  · have hp : ¬ nI p = -1 := nI_nm1 (by omega)
    rw [p2, nI_add, nI_add, nI_add]
    by_cases hs : V 31 i = 0
    · have hc : (V 29 i = -1 ∨ btI V 29 30 (nI (ta + s + p)) (nI (ua + 1)) i = true) ↔ beB W (nI (ta + s + p)) (nI (ua + 1)) i = true := by
        unfold beB btI
        rw [← g1, decide_eq_true_iff]
        rcases g3 with g3 | ⟨t, u, e1, e2, e3, -⟩
        · exact ⟨fun _ => Or.inl g3.1, fun _ => Or.inl g3.1⟩
        · rw [e2, e3]
      have hia : a ≠ i := fun e => h3 (by rw [e]; exact hs)
      by_cases hb : V 29 i = -1 ∨ btI V 29 30 (nI (ta + s + p)) (nI (ua + 1)) i = true
      · rw [if_pos ⟨hp, hb⟩, if_pos ⟨hp, g2.mp hs, hc.mp hb⟩]
        refine ⟨fun c hc' => ?_, ?_, ?_, ?_⟩
        · by_cases ec : c = i
          · subst ec
            refine ⟨?_, ?_, Or.inr ⟨ta + s + p, ua + 1, ?_, ?_, ?_, by omega, by omega, fun hn => ?_, fun _ => by omega⟩⟩
            · rw [jv_Une (by omega), jv_Ueq, jv_Une (by omega), jv_Ueq]
            · rw [jv_Une (by omega), jv_Une (by omega), jv_Une (by omega), jv_Une (by omega)]; exact g2
            · rw [jv_Une (by omega), jv_Ueq]
            · rw [jv_Ueq]
            · rw [jv_Ueq]
            · rw [jv_Une (by omega), jv_Une (by omega)] at hn; exact absurd hs hn
          · have := H c hc'
            rw [jv_Unj ec, jv_Unj ec, jv_Unj ec, jv_Unj ec, jv_Unj ec, jv_Unj ec, jv_Unj ec, jv_Unj ec, jv_Unj ec, jv_Unj ec, jv_Unj ec, jv_Unj ec]
            exact this
        · rw [jv_Unj hia, jv_Unj hia]; exact h1
        · rw [jv_Unj hia, jv_Unj hia]; exact h2
        · rw [jv_U_other (by omega), jv_U_other (by omega)]
      · rw [if_neg (fun d => hb d.2), if_neg (fun d => hb (hc.mpr d.2.2))]
        exact ⟨H, h1, h2, rfl⟩
    · have hn : ¬ (V 29 i = -1 ∨ btI V 29 30 (nI (ta + s + p)) (nI (ua + 1)) i = true) := by
        rcases g3 with g3 | ⟨t, u, e1, e2, e3, e4, e5, e6, -⟩
        · exact absurd g3.2.2 hs
        · have ht := e6 hs
          unfold btI
          simp only [Bool.or_eq_true, Bool.and_eq_true, decide_eq_true_eq]
          rintro (c | c | ⟨c, -⟩)
          · exact RW.ne e1 (by omega) c
          · rw [e1] at c
            exact nI_nlt (by omega) (by omega) c
          · rw [e1, nI_eq (by omega) (by omega)] at c
            omega
      rw [if_neg (fun d => hn d.2), if_neg (fun d => hs (g2.mpr d.2.1))]
      exact ⟨H, h1, h2, rfl⟩
theorem ldb_o {V : Nat → Nat → Int32} {a i q : Nat} {x y : Int32} (h : q < 29 ∨ 30 < q) : ldb V 29 30 a i x y q = V q := by
  unfold ldb
  split
  · rw [jv_U_other (by omega), jv_U_other (by omega)]
  · rfl
theorem RW.relax {N K B a ta ua : Nat} (hN : N ≤ 12) (hB : B ≤ 12) (ha : a < N) (h4 : ta ≤ 23 * B) (h5 : ua ≤ B) : ∀ m i V W, i + m ≤ N → RW V W N (B + 1) ta → WP V W N K → V 29 a = nI ta → V 30 a = nI ua → ¬ V 31 a = 0 → RW (ldL a m i V) (rlL K a m i W) N (B + 1) ta := by
  intro m
  induction m with
  | zero => intro i V W _ H _ _ _ _; exact H
  | succ m ih =>
    intro i V W hi H P h1 h2 h3
    obtain ⟨s1, s2, s3, s4⟩ := H.step P hB ha (show i < N by omega) h1 h2 h3 h4 h5
    exact ih _ _ _ (by omega) s1 (P.to hN (fun q hq => ldb_o (by omega)) (fun q g1 g2 => rlb_out (by omega))) s2 s3 (by rw [s4]; exact h3)
theorem RW.rounds {N K : Nat} (hN : N ≤ 12) : ∀ m V W B M, B + m ≤ 12 → RW V W N B M → WP V W N K → ∃ B' M', B' ≤ 12 ∧ RW (rndC N m V) (rndM N K m W) N B' M' := by
  intro m
  induction m with
  | zero => intro V W B M hB H _; exact ⟨B, M, by omega, H⟩
  | succ m ih =>
    intro V W B M hB H P
    unfold rndC rndM
    rw [← H.near (by omega)]
    cases e : nrs V 29 30 31 N 0 none with
    | none => exact ⟨B, M, by omega, H⟩
    | some a =>
      simp only []
      have hin := nrs_in N 0 none e
      have hmin := (nrs_min N 0 none e).1
      rcases hin with hin | ⟨-, hin, us, rs⟩
      · cases hin
      have ha : a < N := by omega
      obtain ⟨a1, a2, a3⟩ := H a ha
      rcases a3 with a3 | ⟨ta, ua, e1, e2, e3, e4, e5, -, e7⟩
      · exact absurd a3.1 rs
      have hM := e7 us
      have H' : RW (jv_U V 31 a (nI 1)) (jv_U W 139 a (nI 1)) N (B + 1) ta := by
        intro c hc
        obtain ⟨c1, c2, c3⟩ := H c hc
        rw [jv_Une (by omega : 29 ≠ 31), jv_Une (by omega : 137 ≠ 139), jv_Une (by omega : 30 ≠ 31), jv_Une (by omega : 138 ≠ 139)]
        by_cases ec : c = a
        · subst ec
          rw [jv_Ueq, jv_Ueq]
          exact ⟨c1, Iff.rfl, Or.inr ⟨ta, ua, e1, e2, e3, by omega, by omega, fun _ => Nat.le_refl _, fun h => absurd h nI1_ne⟩⟩
        · rw [jv_Unj ec, jv_Unj ec]
          refine ⟨c1, c2, ?_⟩
          rcases c3 with c3 | ⟨t, u, f1, f2, f3, f4, f5, f6, f7⟩
          · exact Or.inl c3
          · refine Or.inr ⟨t, u, f1, f2, f3, by omega, by omega, fun h => by have := f6 h; omega, fun h => ?_⟩
            have hm := hmin c (by omega) (by omega) h (RW.ne f1 (by omega))
            rw [e1, f1, nI_leI (by omega) (by omega)] at hm
            exact hm
      have P' : WP (jv_U V 31 a (nI 1)) (jv_U W 139 a (nI 1)) N K := P.to hN (fun q hq => jv_U_other (by omega)) (fun q g1 g2 => jv_U_other (by omega))
      have R := RW.relax hN (show B ≤ 12 by omega) ha (by omega) (by omega) N 0 _ _ (by omega) H' P' (by rw [jv_Une (by omega)]; exact e1) (by rw [jv_Une (by omega)]; exact e2) (by rw [jv_Ueq]; exact nI1_ne)
      exact ih _ _ (B + 1) ta (by omega) R (P'.to hN (fun q hq => ldL_out (by omega) (by omega) _ _ _) (fun q g1 g2 => rlL_out (by omega) _ _ _))
/-- the ways that both sides find -/
def Wy (V W : Nat → Nat → Int32) (N f : Nat) : Prop := V 29 f = nI 0 ∧ ∀ c, c < N → V 29 c = W 137 c ∧ ((V 29 c = -1 ∧ V 30 c = -1) ∨ ∃ t, V 29 c = nI t ∧ t < 400 ∧ V 30 c = W 138 c)
theorem ways_alike {V W : Nat → Nat → Int32} {N K f : Nat} (P : WP V W N K) (hN : N ≤ 12) (hf : f < N) : Wy (fndC V N f) (wayM W N K f) N f := by
  have H0 : RW (jv_U (jv_U (iniC V 12) 29 f (nI 0)) 30 f (nI 0)) (jv_U (jv_U (iniM W N) 137 f (nI 0)) 138 f (nI 0)) N 0 0 := by
    intro c hc
    have i31 : iniC V 12 31 c = 0 := by unfold iniC; rw [if_pos (by omega), if_neg (by omega), if_neg (by omega), if_pos rfl]; exact nI_0
    have i29 : iniC V 12 29 c = -1 := by unfold iniC; rw [if_pos (by omega), if_pos rfl]
    have i30 : iniC V 12 30 c = -1 := by unfold iniC; rw [if_pos (by omega), if_neg (by omega), if_pos rfl]
    have j139 : iniM W N 139 c = 0 := by unfold iniM; rw [if_pos hc, if_neg (by omega), if_pos rfl]; exact nI_0
    have j137 : iniM W N 137 c = -1 := by unfold iniM; rw [if_pos hc, if_pos rfl]
    rw [jv_Une (by omega : 31 ≠ 30), jv_Une (by omega : 31 ≠ 29), jv_Une (by omega : 139 ≠ 138), jv_Une (by omega : 139 ≠ 137), i31, j139, jv_Une (by omega : 29 ≠ 30), jv_Une (by omega : 137 ≠ 138)]
    by_cases ec : c = f
    · subst ec
      rw [jv_Ueq, jv_Ueq, jv_Ueq, jv_Ueq]
      exact ⟨rfl, Iff.rfl, Or.inr ⟨0, 0, rfl, rfl, rfl, by omega, by omega, fun _ => by omega, fun _ => by omega⟩⟩
    · rw [jv_Unj ec, jv_Unj ec, jv_Unj ec, jv_Unj ec, jv_Unj ec, i29, i30, j137]
      exact ⟨rfl, Iff.rfl, Or.inl ⟨rfl, rfl, rfl⟩⟩
  obtain ⟨B, M, hB, R⟩ := RW.rounds (K := K) hN N _ _ 0 0 (by omega) H0 (P.to hN (fun q hq => by rw [jv_U_other (by omega), jv_U_other (by omega), iniC_out (by omega)]) (fun q g1 g2 => by rw [jv_U_other (by omega), jv_U_other (by omega), iniM_out (by omega)]))
  have R' : RW (fndC V N f) (wayM W N K f) N B M := R
  refine ⟨by rw [(R' f hf).1]; exact wayM_self hf, fun c hc => ?_⟩
  obtain ⟨h1, -, h3⟩ := R' c hc
  refine ⟨h1, ?_⟩
  rcases h3 with h3 | ⟨t, u, e1, e2, e3, e4, -⟩
  · exact Or.inl ⟨h3.1, h3.2.1⟩
  · exact Or.inr ⟨t, e1, by omega, by rw [e2, e3]⟩
