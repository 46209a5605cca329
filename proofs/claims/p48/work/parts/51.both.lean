def LiA (V : Nat → Nat → Int32) (K : Nat) : Prop := ∀ k, k < K → ∃ lo hi ev wt, V 128 k = nI lo ∧ V 129 k = nI hi ∧ V 130 k = nI ev ∧ V 131 k = nI wt ∧ lo < hi ∧ hi < 12 ∧ 1 ≤ ev ∧ ev ≤ hi - lo ∧ 1 ≤ wt ∧ wt ≤ 9 ∧ (∀ c, c < 12 → V (20 + 2 * k + 1) c = stp lo hi ev c) ∧ V (20 + 2 * k) 0 = V 132 k ∧ V (20 + 2 * k) 1 = nI wt ∧ (V 132 k = 0 ∨ V 132 k = 1)
theorem svB_stp {V : Nat → Nat → Int32} {k lo hi ev c : Nat} (h1 : V 128 k = nI lo) (h2 : V 129 k = nI hi) (h3 : V 130 k = nI ev) (hl : lo < hi) (hh : hi < 12) (he : 1 ≤ ev) (he2 : ev ≤ 12) (hc : c < 12) : svB V k (nI c) = decide (¬ stp lo hi ev c = 0) := by
  unfold svB
  rw [h1, h2, h3]
  by_cases hin : lo ≤ c ∧ c ≤ hi
  · rw [inN_ok hin.1 hin.2 (by omega), pk_sub hin.1, pk_rem (by omega) (by omega) (by omega), Bool.true_and]
    by_cases hm : (c - lo) % ev = 0
    · rw [hm, decide_eq_true nI_0]
      symm
      apply decide_eq_true
      unfold stp
      rw [if_pos (by first | exact ⟨hin.1, hin.2, hm⟩ | exact ⟨⟨hin.1, hin.2⟩, hm⟩)]
      exact nI1_ne
    · have hlt : (c - lo) % ev < ev := Nat.mod_lt _ (by omega)
      rw [decide_eq_false (nI_ne0 (Nat.pos_of_ne_zero hm) (by omega))]
      symm
      apply decide_eq_false
      unfold stp
      rw [if_neg (fun d => by first | exact hm d.2.2 | exact hm d.2)]
      exact fun d => d nI_0
  · have e : inB (nI c) (nI lo) (nI hi) = false := by
      unfold inB
      apply decide_eq_false
      rintro ⟨a, b⟩
      apply hin
      rw [nI_ltI (by omega) (by omega)] at a b
      omega
    rw [e, Bool.false_and]
    symm
    apply decide_eq_false
    unfold stp
    rw [if_neg (fun d => hin (by first | exact ⟨d.1, d.2.1⟩ | exact d.1))]
    exact fun d => d nI_0
theorem hoL_fhL {V : Nat → Nat → Int32} {K a b lw hg : Nat} (hL : LiA V K) (hlh : lw < hg) (hh : hg < 12) (hab : (a = lw ∧ b = hg) ∨ (a = hg ∧ b = lw)) : ∀ m i acc, i + m ≤ K → hoL V a b (hg - lw) m i acc = fhL V lw hg m i acc := by
  intro m
  induction m with
  | zero => intro i acc _; rfl
  | succ m ih =>
    intro i acc hi
    unfold hoL fhL
    rw [ih _ _ (by omega)]
    congr 1
    obtain ⟨lo, hi', ev, wt, e1, e2, e3, e4, c1, c2, c3, c4, c5, c6, c7, c8, c9, c10⟩ := hL i (by omega)
    have sa : svB V i (nI lw) = decide (¬ V (20 + 2 * i + 1) lw = 0) := by rw [c7 lw (by omega)]; exact svB_stp e1 e2 e3 c1 c2 c3 (by omega) (by omega)
    have sb : svB V i (nI hg) = decide (¬ V (20 + 2 * i + 1) hg = 0) := by rw [c7 hg (by omega)]; exact svB_stp e1 e2 e3 c1 c2 c3 (by omega) (by omega)
    have hw : ¬ nI wt + nI ((hg - lw) / 2) = -1 := by rw [nI_add]; exact nI_nm1 (by omega)
    have key : (¬ V 132 i = 0 ∧ svB V i (nI a) = true ∧ svB V i (nI b) = true) ↔ (¬ V (20 + 2 * i) 0 = 0 ∧ ¬ V (20 + 2 * i + 1) lw = 0 ∧ ¬ V (20 + 2 * i + 1) hg = 0) := by
      rw [c8]
      rcases hab with ⟨rfl, rfl⟩ | ⟨rfl, rfl⟩
      · rw [sa, sb, decide_eq_true_iff, decide_eq_true_iff]
      · rw [sa, sb, decide_eq_true_iff, decide_eq_true_iff]
        constructor
        · rintro ⟨x, y, z⟩; exact ⟨x, z, y⟩
        · rintro ⟨x, y, z⟩; exact ⟨x, z, y⟩
    unfold hrs
    rw [e4, c9]
    by_cases hc : ¬ V (20 + 2 * i) 0 = 0 ∧ ¬ V (20 + 2 * i + 1) lw = 0 ∧ ¬ V (20 + 2 * i + 1) hg = 0
    · rw [if_pos (key.mpr hc)]
      simp only [if_pos hc]
      by_cases ha : acc = -1
      · rw [if_pos ha, if_pos ⟨hw, Or.inl ha⟩]
      · rw [if_neg ha]
        by_cases hlt : nI wt + nI ((hg - lw) / 2) < acc
        · rw [if_pos hlt, if_pos ⟨hw, Or.inr hlt⟩]
        · rw [if_neg hlt, if_neg (fun d => d.2.elim ha hlt)]
    · rw [if_neg (fun d => hc (key.mp d))]
      simp only [if_neg hc]
      rw [if_neg (fun d => absurd d.1 (by simp))]
def StA (V : Nat → Nat → Int32) : Prop := ∀ f, f < 12 → V 4 f = V 126 f ∧ V 5 f = V 127 f
theorem hoM_fh {V : Nat → Nat → Int32} {K lw hg : Nat} (hL : LiA V K) (hS : StA V) (hlh : lw < hg) (hh : hg < 12) : hoM V K lw hg = fh V K lw hg ∧ hoM V K hg lw = fh V K lw hg := by
  obtain ⟨s1, s2⟩ := hS lw (by omega)
  constructor
  · unfold hoM hoX fh
    rw [if_neg (by omega), Nat.min_eq_left (by omega), Nat.max_eq_right (by omega), hoL_fhL hL hlh hh (Or.inl ⟨rfl, rfl⟩) _ _ _ (by omega), s1, s2]
  · unfold hoM hoX fh
    rw [if_neg (by omega), Nat.min_eq_right (by omega), Nat.max_eq_left (by omega), hoL_fhL hL hlh hh (Or.inr ⟨rfl, rfl⟩) _ _ _ (by omega), s1, s2]
theorem hoM_self {V : Nat → Nat → Int32} {K a : Nat} : hoM V K a a = -1 := by
  unfold hoM hoX
  rw [if_pos rfl]
def PiA (V : Nat → Nat → Int32) (N K : Nat) : Prop := ∀ a b, a < N → b < N → V (8 + a) b = hoM V K a b
theorem layX_hoM {V : Nat → Nat → Int32} {K a b : Nat} (hL : LiA V K) (hS : StA V) (ha : a < 12) (hb : b < 12) : layX V K (8 + a) b = hoM V K a b := by
  unfold layX
  by_cases e : a = b
  · subst e; rw [if_pos rfl, hoM_self]
  · rw [if_neg (by omega)]
    by_cases h : a < b
    · rw [if_pos (by omega), (hoM_fh hL hS h hb).1, show 8 + a - 8 = a by omega]
    · rw [if_neg (by omega), (hoM_fh hL hS (by omega : b < a) ha).2, show 8 + a - 8 = a by omega]
theorem layV_PiA {V : Nat → Nat → Int32} {N K : Nat} (hL : LiA V K) (hS : StA V) (hN : N ≤ 12) : PiA (layV V N K) N K := by
  intro a b ha hb
  have e : hoM (layV V N K) K a b = hoM V K a b := hoM_congr (fun q h1 h2 => layV_out (by omega))
  rw [e]
  unfold layV
  rw [if_pos ⟨by omega, by omega, hb⟩]
  exact layX_hoM hL hS (by omega) (by omega)

def fo (o : Nat) : Nat := if o = 3 then 288 else if o = 4 then 192 else 96 * (o - 1)
theorem fo_le {o : Nat} (h9 : o ≤ 9) : fo o ≤ 768 := by
  unfold fo
  split
  · omega
  · split <;> omega
theorem fo_inj {o o' a b : Nat} (h1 : 1 ≤ o) (h9 : o ≤ 9) (h1' : 1 ≤ o') (h9' : o' ≤ 9) (ha : a < 96) (hb : b < 96) (h : fo o + a = fo o' + b) : o = o' ∧ a = b := by
  unfold fo at h
  split at h <;> split at h <;> try split at h
  all_goals try split at h
  all_goals omega
theorem jv_U_comm {V : Nat → Nat → Int32} {p q i j : Nat} {x y : Int32} (h : p ≠ q) : jv_U (jv_U V p i x) q j y = jv_U (jv_U V q j y) p i x := by
  funext a c
  unfold jv_U
  by_cases e1 : a = q
  · subst e1
    rw [if_pos rfl, if_neg (Ne.symm h), if_neg (Ne.symm h), if_pos rfl]
  · rw [if_neg e1]
    by_cases e2 : a = p
    · subst e2
      rw [if_pos rfl, if_pos rfl, if_neg e1]
    · rw [if_neg e2, if_neg e2, if_neg e1]
def Sim (V W : Nat → Nat → Int32) (r j N K : Nat) (h : Int32) : Prop := (∀ o f, 1 ≤ o → o ≤ 9 → f < 12 → V (r + o) f = W 135 (fo o + (12 * j + f))) ∧ (∀ f, f < 12 → V 3 f = W 125 f) ∧ (∀ a b, a < N → b < N → V (8 + a) b = hoM W K a b) ∧ W 135 864 = h ∧ V r 1 = W 134 j
theorem Sim.w {V W : Nat → Nat → Int32} {r j N K o f : Nat} {h x : Int32} (H : Sim V W r j N K h) (hr : 33 ≤ r) (hj : j < 8) (hN : N ≤ 12) (h1 : 1 ≤ o) (h9 : o ≤ 9) (hf : f < 12) : Sim (jv_U V (r + o) f x) (jv_U W 135 (fo o + (12 * j + f)) x) r j N K h := by
  obtain ⟨a, b, c, d, e⟩ := H
  have := fo_le h9
  refine ⟨fun o' f' g1 g9 gf => ?_, fun f' gf => ?_, fun p q hp hq => ?_, ?_, ?_⟩
  · by_cases eo : o' = o
    · subst eo
      by_cases ef : f' = f
      · subst ef; rw [jv_Ueq, jv_Ueq]
      · rw [jv_Unj ef, jv_Unj (by omega)]; exact a o' f' g1 g9 gf
    · rw [jv_Une (by omega), jv_Unj (fun q => eo (fo_inj g1 g9 h1 h9 (by omega) (by omega) q).1)]; exact a o' f' g1 g9 gf
  · rw [jv_Une (by omega), jv_Une (by omega)]; exact b f' gf
  · rw [jv_Une (by omega), hoM_congr (V := W) (fun q h1 h2 => jv_U_other (by omega))]; exact c p q hp hq
  · rw [jv_Unj (by omega)]; exact d
  · rw [jv_Une (by omega), jv_Une (by omega)]; exact e
theorem Sim.hear {V W : Nat → Nat → Int32} {r j N K f : Nat} {h p : Int32} (H : Sim V W r j N K h) (hr : 33 ≤ r) (hj : j < 8) (hN : N ≤ 12) (hf : f < 12) : Sim (brR V r f p h) (heM W (12 * j + f) p) r j N K h := by
  have e1 : V (r + 1) f = W 135 (0 + (12 * j + f)) := H.1 1 f (by omega) (by omega) hf
  have es : V 3 f = W 125 ((12 * j + f) % 12) := by rw [show (12 * j + f) % 12 = f by omega]; exact H.2.1 f hf
  unfold brR heM
  rw [e1, es, H.2.2.2.1]
  split
  · exact (((H.w (o := 1) hr hj hN (by omega) (by omega) hf).w (o := 2) hr hj hN (by omega) (by omega) hf).w (o := 4) hr hj hN (by omega) (by omega) hf).w (o := 5) hr hj hN (by omega) (by omega) hf
  · exact H
theorem Sim.deny {V W : Nat → Nat → Int32} {r j N K f : Nat} {h : Int32} (H : Sim V W r j N K h) (hr : 33 ≤ r) (hj : j < 8) (hN : N ≤ 12) (hf : f < 12) : Sim (brD V r f h) (deM W (12 * j + f)) r j N K h := by
  have e1 : V (r + 1) f = W 135 (0 + (12 * j + f)) := H.1 1 f (by omega) (by omega) hf
  have es : V 3 f = W 125 ((12 * j + f) % 12) := by rw [show (12 * j + f) % 12 = f by omega]; exact H.2.1 f hf
  unfold brD deM
  rw [e1, es, H.2.2.2.1]
  split
  · exact H
  · rw [jv_U_comm (show r + 6 ≠ r + 5 by omega)]
    exact (((H.w (o := 1) hr hj hN (by omega) (by omega) hf).w (o := 3) hr hj hN (by omega) (by omega) hf).w (o := 5) hr hj hN (by omega) (by omega) hf).w (o := 6) hr hj hN (by omega) (by omega) hf
theorem Sim.arr {V W : Nat → Nat → Int32} {r j N K f : Nat} {h : Int32} (H : Sim V W r j N K h) (hr : 33 ≤ r) (hj : j < 8) (hN : N ≤ 12) (hf : f < 12) : Sim (hr1 V r f h) (arM W (12 * j + f)) r j N K h := by
  have step1 : Sim (h1R V r f h) (arR W (12 * j + f)) r j N K h := by
    have e7 : V (r + 7) f = W 135 (576 + (12 * j + f)) := H.1 7 f (by omega) (by omega) hf
    have H7 : Sim (jv_U V (r + 7) f (-1)) (jv_U W 135 (576 + (12 * j + f)) (-1)) r j N K h := H.w (o := 7) hr hj hN (by omega) (by omega) hf
    have e8 : jv_U V (r + 7) f (-1) (r + 8) f = jv_U W 135 (576 + (12 * j + f)) (-1) 135 (672 + (12 * j + f)) := H7.1 8 f (by omega) (by omega) hf
    unfold h1R arR
    rw [e7, H.2.2.2.1, e8]
    split
    · exact H7.hear hr hj hN hf
    · exact H
  have e9 : h1R V r f h (r + 9) f = arR W (12 * j + f) 135 (768 + (12 * j + f)) := step1.1 9 f (by omega) (by omega) hf
  have H9 : Sim (jv_U (h1R V r f h) (r + 9) f (-1)) (jv_U (arR W (12 * j + f)) 135 (768 + (12 * j + f)) (-1)) r j N K h := step1.w (o := 9) hr hj hN (by omega) (by omega) hf
  unfold hr1 arM h1D arD
  rw [e9, step1.2.2.2.1]
  split
  · exact H9.deny hr hj hN hf
  · exact step1
theorem Sim.hearL {r j N K : Nat} {h : Int32} (hr : 33 ≤ r) (hj : j < 8) (hN : N ≤ 12) : ∀ m i V W, i + m ≤ 12 → Sim V W r j N K h → Sim (hrV r h m i V) (haL j m i W) r j N K h := by
  intro m
  induction m with
  | zero => intro i V W _ H; exact H
  | succ m ih =>
    intro i V W hi H
    exact ih _ _ _ (by omega) (H.arr hr hj hN (by omega))
theorem Sim.tell1 {V W : Nat → Nat → Int32} {r j N K f i : Nat} {h p : Int32} (H : Sim V W r j N K h) (hr : 33 ≤ r) (hj : j < 8) (hN : N ≤ 12) (hf : f < N) (hi : i < N) : Sim (tr1 V r f i p h) (sr1 W K j f i p) r j N K h := by
  have e7 : V (r + 7) i = W 135 (576 + (12 * j + i)) := H.1 7 i (by omega) (by omega) (by omega)
  have e8 : V (r + 8) i = W 135 (672 + (12 * j + i)) := H.1 8 i (by omega) (by omega) (by omega)
  unfold tr1
  unfold sr1
  rw [H.2.2.1 f i hf hi, e7, e8, H.2.2.2.1]
  by_cases hp : hoM W K f i = -1
  · rw [if_neg (fun c => c.1 hp), if_pos hp]; exact H
  · rw [if_neg hp]
    by_cases hc : W 135 (576 + (12 * j + i)) = -1 ∨ h + hoM W K f i < W 135 (576 + (12 * j + i)) ∨ (h + hoM W K f i = W 135 (576 + (12 * j + i)) ∧ p < W 135 (672 + (12 * j + i)))
    · rw [if_pos ⟨hp, hc⟩, if_pos hc]
      exact (H.w (o := 7) hr hj hN (by omega) (by omega) (by omega)).w (o := 8) hr hj hN (by omega) (by omega) (by omega)
    · rw [if_neg (fun c => hc c.2), if_neg hc]; exact H

def Bd (V : Nat → Nat → Int32) (r : Nat) : Prop := V r 1 ≤ nI 20 ∧ ∀ f, f < 12 → V (r + 4) f ≤ nI 20 ∧ V (r + 8) f ≤ nI 20
theorem Bd.w {V : Nat → Nat → Int32} {r o f : Nat} {x : Int32} (H : Bd V r) (h1 : 1 ≤ o) (hx : o = 4 ∨ o = 8 → x ≤ nI 20) : Bd (jv_U V (r + o) f x) r := by
  obtain ⟨a, b⟩ := H
  refine ⟨by rw [jv_Une (by omega)]; exact a, fun f' hf' => ⟨?_, ?_⟩⟩
  · by_cases e : r + 4 = r + o
    · by_cases ef : f' = f
      · rw [e, ef, jv_Ueq]; exact hx (Or.inl (by omega))
      · rw [jv_Unj ef]; exact (b f' hf').1
    · rw [jv_Une e]; exact (b f' hf').1
  · by_cases e : r + 8 = r + o
    · by_cases ef : f' = f
      · rw [e, ef, jv_Ueq]; exact hx (Or.inr (by omega))
      · rw [jv_Unj ef]; exact (b f' hf').2
    · rw [jv_Une e]; exact (b f' hf').2
theorem Bd.hear {V : Nat → Nat → Int32} {r f : Nat} {h p : Int32} (H : Bd V r) (hp : p ≤ nI 20) : Bd (brR V r f p h) r := by
  unfold brR
  split
  · exact (((H.w (o := 1) (by omega) (by omega)).w (o := 2) (by omega) (by omega)).w (o := 4) (by omega) (fun _ => hp)).w (o := 5) (by omega) (by omega)
  · exact H
theorem Bd.deny {V : Nat → Nat → Int32} {r f : Nat} {h : Int32} (H : Bd V r) : Bd (brD V r f h) r := by
  unfold brD
  split
  · exact H
  · exact (((H.w (o := 1) (by omega) (by omega)).w (o := 3) (by omega) (by omega)).w (o := 6) (by omega) (by omega)).w (o := 5) (by omega) (by omega)
theorem Bd.arr {V : Nat → Nat → Int32} {r f : Nat} {h : Int32} (H : Bd V r) (hf : f < 12) : Bd (hr1 V r f h) r := by
  have a : Bd (h1R V r f h) r := by
    unfold h1R
    split
    · have H7 := H.w (o := 7) (f := f) (x := -1) (by omega) (by omega)
      exact H7.hear (H7.2 f hf).2
    · exact H
  unfold hr1 h1D
  split
  · exact (a.w (o := 9) (by omega) (by omega)).deny
  · exact a
theorem Bd.hearL {r : Nat} {h : Int32} : ∀ m i V, i + m ≤ 12 → Bd V r → Bd (hrV r h m i V) r := by
  intro m
  induction m with
  | zero => intro i V _ H; exact H
  | succ m ih => intro i V hi H; exact ih _ _ (by omega) (H.arr (by omega))
theorem Bd.tell1 {V : Nat → Nat → Int32} {r f i : Nat} {h p : Int32} (H : Bd V r) (hp : p ≤ nI 20) : Bd (tr1 V r f i p h) r := by
  unfold tr1
  split
  · exact (H.w (o := 7) (by omega) (by omega)).w (o := 8) (by omega) (fun _ => hp)
  · exact H
theorem Bd.tellL {r f : Nat} {h p : Int32} (hp : p ≤ nI 20) : ∀ m i V, Bd V r → Bd (trL r f p h m i V) r := by
  intro m
  induction m with
  | zero => intro i V H; exact H
  | succ m ih => intro i V H; exact ih _ _ (H.tell1 hp)
theorem Bd.tell {V : Nat → Nat → Int32} {r N f : Nat} {h : Int32} (H : Bd V r) : Bd (telR V r N f h) r := by
  unfold telR
  split
  · rename_i hc
    exact Bd.tellL (Int32.le_trans hc H.1) _ _ _ H
  · exact H
theorem Bd.den1 {V : Nat → Nat → Int32} {r f i : Nat} {h : Int32} (H : Bd V r) : Bd (td1 V r f i h) r := by
  unfold td1
  split
  · exact H.w (o := 9) (by omega) (by omega)
  · exact H
theorem Bd.denL {r f : Nat} {h : Int32} : ∀ m i V, Bd V r → Bd (tdL r f h m i V) r := by
  intro m
  induction m with
  | zero => intro i V H; exact H
  | succ m ih => intro i V H; exact ih _ _ H.den1
theorem Bd.te {V : Nat → Nat → Int32} {r N f : Nat} {h : Int32} (H : Bd V r) : Bd (te1 V r N f h) r := by
  have a : Bd (t1R V r N f h) r := by
    unfold t1R
    split
    · exact (H.w (o := 5) (by omega) (by omega)).tell
    · exact H
  unfold te1 t1D
  split
  · exact Bd.denL _ _ _ (a.w (o := 6) (by omega) (by omega))
  · exact a
theorem Bd.teL {r N : Nat} {h : Int32} : ∀ m i V, Bd V r → Bd (teL r N h m i V) r := by
  intro m
  induction m with
  | zero => intro i V H; exact H
  | succ m ih => intro i V H; exact ih _ _ H.te
theorem Bd.hour {V : Nat → Nat → Int32} {r N : Nat} {h : Int32} (H : Bd V r) (hN : N ≤ 12) : Bd (phV V r N h) r := Bd.teL _ _ _ (Bd.hearL _ _ _ (by omega) H)
theorem tu_iff {x y : Int32} (hx : x ≤ nI 20) : x + nI 1 ≤ y ↔ ¬ y ≤ x := by
  rw [Int32.le_iff_toInt_le, Int32.le_iff_toInt_le, Int32.toInt_add]
  rw [Int32.le_iff_toInt_le, nI_toInt (by omega)] at hx
  rw [nI_toInt (by omega)]
  have h1 := Int32.le_toInt x
  rw [show ((x.toInt + ((1 : Nat) : Int)).bmod (2 ^ 32)) = x.toInt + 1 by unfold Int.bmod; simp only []; split <;> omega]
  omega
theorem Sim.tellL {r j N K f : Nat} {h p : Int32} (hr : 33 ≤ r) (hj : j < 8) (hN : N ≤ 12) (hf : f < N) : ∀ m i V W, i + m ≤ N → Sim V W r j N K h → Sim (trL r f p h m i V) (srL K j f p m i W) r j N K h := by
  intro m
  induction m with
  | zero => intro i V W _ H; exact H
  | succ m ih => intro i V W hi H; exact ih _ _ _ (by omega) (H.tell1 hr hj hN hf (by omega))
theorem Sim.den1 {V W : Nat → Nat → Int32} {r j N K f i : Nat} {h : Int32} (H : Sim V W r j N K h) (hr : 33 ≤ r) (hj : j < 8) (hN : N ≤ 12) (hf : f < N) (hi : i < N) : Sim (td1 V r f i h) (sd1 W K j f i) r j N K h := by
  have e9 : V (r + 9) i = W 135 (768 + (12 * j + i)) := H.1 9 i (by omega) (by omega) (by omega)
  unfold td1 sd1
  rw [H.2.2.1 f i hf hi, e9, H.2.2.2.1]
  by_cases hp : hoM W K f i = -1
  · rw [if_neg (fun c => c.1 hp), if_pos hp]; exact H
  · rw [if_neg hp]
    by_cases h1 : W 135 (768 + (12 * j + i)) = -1
    · rw [if_pos ⟨hp, Or.inl h1⟩, if_pos h1]
      exact H.w (o := 9) hr hj hN (by omega) (by omega) (by omega)
    · rw [if_neg h1]
      unfold mnI
      by_cases h2 : h + hoM W K f i < W 135 (768 + (12 * j + i))
      · rw [if_pos ⟨hp, Or.inr h2⟩, if_pos h2]
        exact H.w (o := 9) hr hj hN (by omega) (by omega) (by omega)
      · rw [if_neg (fun c => c.2.elim h1 h2), if_neg h2]
        have e : jv_U W 135 (768 + (12 * j + i)) (W 135 (768 + (12 * j + i))) = W := by
          funext q c
          unfold jv_U
          by_cases a : q = 135
          · subst a
            by_cases b : c = 768 + (12 * j + i)
            · subst b; rw [if_pos rfl, if_pos rfl]
            · rw [if_pos rfl, if_neg b]
          · rw [if_neg a]
        rw [e]; exact H
theorem Sim.denL {r j N K f : Nat} {h : Int32} (hr : 33 ≤ r) (hj : j < 8) (hN : N ≤ 12) (hf : f < N) : ∀ m i V W, i + m ≤ N → Sim V W r j N K h → Sim (tdL r f h m i V) (sdL K j f m i W) r j N K h := by
  intro m
  induction m with
  | zero => intro i V W _ H; exact H
  | succ m ih => intro i V W hi H; exact ih _ _ _ (by omega) (H.den1 hr hj hN hf (by omega))
theorem Sim.tell {V W : Nat → Nat → Int32} {r j N K f : Nat} {h : Int32} (H : Sim V W r j N K h) (B : Bd V r) (hr : 33 ≤ r) (hj : j < 8) (hN : N ≤ 12) (hf : f < N) : Sim (telR V r N f h) (tuR W N K j f) r j N K h := by
  have e4 : V (r + 4) f = W 135 (192 + (12 * j + f)) := H.1 4 f (by omega) (by omega) (by omega)
  have hb := (B.2 f (by omega)).1
  unfold telR tuR seR
  rw [Nat.add_assoc 192 (12 * j) f, ← e4, ← H.2.2.2.2]
  by_cases hc : V r 1 ≤ V (r + 4) f
  · rw [if_neg (fun c => (tu_iff hb).mp c hc), if_pos hc]; exact H
  · rw [if_pos ((tu_iff hb).mpr hc), if_neg hc]
    exact Sim.tellL hr hj hN hf _ _ _ _ (by omega) H
theorem Sim.te {V W : Nat → Nat → Int32} {r j N K f : Nat} {h : Int32} (H : Sim V W r j N K h) (B : Bd V r) (hr : 33 ≤ r) (hj : j < 8) (hN : N ≤ 12) (hf : f < N) : Sim (te1 V r N f h) (tmM W N K j f) r j N K h := by
  have s1 : Sim (t1R V r N f h) (tmR W N K j f) r j N K h := by
    have e5 : V (r + 5) f = W 135 (384 + (12 * j + f)) := H.1 5 f (by omega) (by omega) (by omega)
    have H5 : Sim (jv_U V (r + 5) f (-1)) (jv_U W 135 (384 + (12 * j + f)) (-1)) r j N K h := H.w (o := 5) hr hj hN (by omega) (by omega) (by omega)
    unfold t1R tmR
    rw [e5, H.2.2.2.1]
    split
    · exact H5.tell (B.w (o := 5) (by omega) (by omega)) hr hj hN hf
    · exact H
  have e6 : t1R V r N f h (r + 6) f = tmR W N K j f 135 (480 + (12 * j + f)) := s1.1 6 f (by omega) (by omega) (by omega)
  have H6 : Sim (jv_U (t1R V r N f h) (r + 6) f (-1)) (jv_U (tmR W N K j f) 135 (480 + (12 * j + f)) (-1)) r j N K h := s1.w (o := 6) hr hj hN (by omega) (by omega) (by omega)
  unfold te1 tmM t1D tmD seD
  rw [e6, s1.2.2.2.1]
  split
  · exact Sim.denL hr hj hN hf _ _ _ _ (by omega) H6
  · exact s1
theorem Sim.teL {r j N K : Nat} {h : Int32} (hr : 33 ≤ r) (hj : j < 8) (hN : N ≤ 12) : ∀ m i V W, i + m ≤ N → Bd V r → Sim V W r j N K h → Sim (teL r N h m i V) (htL N K j m i W) r j N K h := by
  intro m
  induction m with
  | zero => intro i V W _ _ H; exact H
  | succ m ih => intro i V W hi B H; exact ih _ _ _ (by omega) B.te (H.te B hr hj hN (by omega))
theorem Sim.hour {V W : Nat → Nat → Int32} {r j N K : Nat} {h : Int32} (H : Sim V W r j N K h) (B : Bd V r) (hr : 33 ≤ r) (hj : j < 8) (hN : N ≤ 12) : Sim (phV V r N h) (hfM W N K j) r j N K h :=
  Sim.teL hr hj hN _ _ _ _ (by omega) (Bd.hearL _ _ _ (by omega) B) (Sim.hearL hr hj hN _ _ _ _ (by omega) H)

theorem Sim.uw {V W : Nat → Nat → Int32} {r j N K i : Nat} {h : Int32} (H : Sim V W r j N K h) (hi : i < 12) : uwB V r i = owB W (12 * j + i) := by
  have e7 : V (r + 7) i = W 135 (576 + (12 * j + i)) := H.1 7 i (by omega) (by omega) hi
  have e9 : V (r + 9) i = W 135 (768 + (12 * j + i)) := H.1 9 i (by omega) (by omega) hi
  unfold uwB owB
  rw [e7, e9]
theorem Sim.quiet {V W : Nat → Nat → Int32} {r j N K : Nat} {h : Int32} (H : Sim V W r j N K h) : ∀ m i, i + m ≤ 12 → quL V r m i = qmL W j m i := by
  intro m
  induction m with
  | zero => intro i _; rfl
  | succ m ih =>
    intro i hi
    have e5 : V (r + 5) i = W 135 (384 + (12 * j + i)) := H.1 5 i (by omega) (by omega) (by omega)
    have e6 : V (r + 6) i = W 135 (480 + (12 * j + i)) := H.1 6 i (by omega) (by omega) (by omega)
    unfold quL qmL
    rw [e5, e6, H.uw (by omega), ih _ (by omega)]
    by_cases hc : owB W (12 * j + i) = false ∧ W 135 (384 + (12 * j + i)) = -1 ∧ W 135 (480 + (12 * j + i)) = -1
    · rw [if_pos hc, if_pos ⟨hc.2.1, hc.2.2, hc.1⟩]
    · rw [if_neg hc, if_neg (fun c => hc ⟨c.2.2, c.1, c.2.1⟩)]
theorem Sim.heads {V W : Nat → Nat → Int32} {r j N K : Nat} {h : Int32} (H : Sim V W r j N K h) (hh : ∀ f, f < 12 → V 2 f = W 124 f) : ∀ m i a, i + m ≤ 12 → hbL V r m i a = beL W j m i a := by
  intro m
  induction m with
  | zero => intro i a _; rfl
  | succ m ih =>
    intro i a hi
    have e1 : V (r + 1) i = W 135 (0 + 12 * j + i) := by rw [Nat.add_assoc]; exact H.1 1 i (by omega) (by omega) (by omega)
    unfold hbL beL
    rw [e1, hh i (by omega), ih _ _ (by omega), add_nI0]
theorem Sim.heard {V W : Nat → Nat → Int32} {j N K : Nat} {h : Int32} (H : Sim V W (43 + 10 * j) j N K h) : ∀ m i a, i + m ≤ 12 → reachedL V j m i a = hdL W j m i a := by
  intro m
  induction m with
  | zero => intro i a _; rfl
  | succ m ih =>
    intro i a hi
    have e2 : V (43 + 10 * j + 2) i = W 135 (96 + 12 * j + i) := by rw [Nat.add_assoc 96]; exact H.1 2 i (by omega) (by omega) (by omega)
    unfold reachedL hdL
    rw [e2, ih _ _ (by omega)]
    rfl
theorem Sim.under {V W : Nat → Nat → Int32} {j N K : Nat} {h : Int32} (H : Sim V W (43 + 10 * j) j N K h) : ∀ m i a, i + m ≤ 12 → underWayL V j m i a = owL W j m i a := by
  intro m
  induction m with
  | zero => intro i a _; rfl
  | succ m ih =>
    intro i a hi
    unfold underWayL owL
    rw [H.uw (by omega), ih _ _ (by omega)]
    cases owB W (12 * j + i) <;> rfl
theorem Sim.next {V W : Nat → Nat → Int32} {r j N K : Nat} {h : Int32} (H : Sim V W r j N K h) (hj : j < 8) : Sim V (hoN W) r j N K (h + nI 1) := by
  obtain ⟨a, b, c, d, e⟩ := H
  refine ⟨fun o f h1 h9 hf => ?_, fun f hf => ?_, fun p q hp hq => ?_, ?_, ?_⟩
  · have := fo_le h9
    unfold hoN
    rw [jv_Unj (by omega)]; exact a o f h1 h9 hf
  · rw [hoN_out (by omega)]; exact b f hf
  · rw [hoM_congr (V := W) (fun q h1 h2 => hoN_out (by omega))]; exact c p q hp hq
  · unfold hoN
    rw [jv_Ueq, d]
  · rw [hoN_out (by omega)]; exact e
def Qt (W : Nat → Nat → Int32) (j N : Nat) : Prop := ∀ i, i < N → owB W (12 * j + i) = false ∧ W 135 (384 + (12 * j + i)) = -1 ∧ W 135 (480 + (12 * j + i)) = -1
theorem qmL_Qt {W : Nat → Nat → Int32} {j N : Nat} : ∀ m i, i + m = N → qmL W j m i = true → ∀ c, i ≤ c → c < N → owB W (12 * j + c) = false ∧ W 135 (384 + (12 * j + c)) = -1 ∧ W 135 (480 + (12 * j + c)) = -1 := by
  intro m
  induction m with
  | zero => intro i hi _ c h1 h2; omega
  | succ m ih =>
    intro i hi hq c h1 h2
    unfold qmL at hq
    split at hq
    · rename_i hc
      by_cases e : c = i
      · subst e; exact hc
      · exact ih _ (by omega) hq c (by omega) h2
    · cases hq
theorem owB_f {W : Nat → Nat → Int32} {a : Nat} (h : owB W a = false) : W 135 (576 + a) = -1 ∧ W 135 (768 + a) = -1 := by
  unfold owB at h
  have := of_decide_eq_false h
  constructor
  · by_cases c : W 135 (576 + a) = -1
    · exact c
    · exact absurd (Or.inl c) this
  · by_cases c : W 135 (768 + a) = -1
    · exact c
    · exact absurd (Or.inr c) this
theorem Qt.arr {W : Nat → Nat → Int32} {j N : Nat} (H : Qt W j N) (h : ¬ W 135 864 = -1) : ∀ m i, i + m ≤ N → haL j m i W = W := by
  intro m
  induction m with
  | zero => intro i _; rfl
  | succ m ih =>
    intro i hi
    obtain ⟨a, b⟩ := owB_f (H i (by omega)).1
    have e : arM W (12 * j + i) = W := by
      have e1 : arR W (12 * j + i) = W := by
        unfold arR
        rw [a, if_neg (fun c => h c.symm)]
      unfold arM
      rw [e1]
      unfold arD
      rw [b, if_neg (fun c => h c.symm)]
    unfold haL
    rw [e]
    exact ih _ (by omega)
theorem Qt.tell {W : Nat → Nat → Int32} {j N K : Nat} (H : Qt W j N) (h : ¬ W 135 864 = -1) : ∀ m i, i + m ≤ N → htL N K j m i W = W := by
  intro m
  induction m with
  | zero => intro i _; rfl
  | succ m ih =>
    intro i hi
    obtain ⟨-, a, b⟩ := H i (by omega)
    have e : tmM W N K j i = W := by
      have e1 : tmR W N K j i = W := by
        unfold tmR
        rw [a, if_neg (fun c => h c.symm)]
      unfold tmM
      rw [e1]
      unfold tmD
      rw [b, if_neg (fun c => h c.symm)]
    unfold htL
    rw [e]
    exact ih _ (by omega)
theorem Qt.hour {W : Nat → Nat → Int32} {j N K : Nat} (H : Qt W j N) (h : ¬ W 135 864 = -1) : hfM W N K j = W := by
  unfold hfM
  rw [H.arr h _ _ (by omega), H.tell h _ _ (by omega)]
theorem Qt.next {W : Nat → Nat → Int32} {j N : Nat} (H : Qt W j N) (hj : j < 8) (hN : N ≤ 12) : Qt (hoN W) j N := by
  intro i hi
  have := H i hi
  unfold owB hoN at *
  rw [jv_Unj (by omega), jv_Unj (by omega), jv_Unj (by omega), jv_Unj (by omega)]
  exact this
theorem Sim.still {r j N K : Nat} {V : Nat → Nat → Int32} (hj : j < 8) (hN : N ≤ 12) : ∀ m t W, t + m ≤ 2 ^ 30 → Qt W j N → Sim V W r j N K (nI t) → ∃ t', Sim V (lkM N K j m W) r j N K (nI t') := by
  intro m
  induction m with
  | zero => intro t W _ _ H; exact ⟨t, H⟩
  | succ m ih =>
    intro t W ht Q H
    have hne : ¬ W 135 864 = -1 := by rw [H.2.2.2.1]; exact nI_nm1 (by omega)
    unfold lkM
    rw [Q.hour hne]
    refine ih (t + 1) _ (by omega) (Q.next hj hN) ?_
    have := H.next hj
    rw [nI_add] at this
    exact this
theorem Sim.look {r j N K c : Nat} (hr : 33 ≤ r) (hj : j < 8) (hN : N ≤ 12) : ∀ m p V W, c + p + m ≤ 2 ^ 30 → Bd V r → Sim V W r j N K (nI (c + p)) → ∃ t', Sim (laV r N (nI c) m p V) (lkM N K j m W) r j N K (nI t') := by
  intro m
  induction m with
  | zero => intro p V W _ _ H; exact ⟨_, H⟩
  | succ m ih =>
    intro p V W hp B H
    unfold laV
    by_cases hq : quL V r N 0 = true
    · rw [if_pos hq]
      rw [H.quiet _ _ (by omega)] at hq
      exact Sim.still hj hN _ _ _ (by omega) (fun i hi => qmL_Qt N 0 (by omega) hq i (by omega) hi) H
    · rw [if_neg hq, nI_add]
      unfold lkM
      refine ih (p + 1) _ _ (by omega) (B.hour hN) ?_
      have := (H.hour B hr hj hN).next hj
      rw [nI_add] at this
      exact this

theorem laC_le {r N : Nat} {h : Int32} : ∀ m p V, laC r N h m p V ≤ p + m := by
  intro m
  induction m with
  | zero => intro p V; exact Nat.le_refl _
  | succ m ih =>
    intro p V
    unfold laC
    split
    · omega
    · have := ih (p + 1) (phV V r N (h + nI p)); omega
theorem lkM_1 {W : Nat → Nat → Int32} {N K j : Nat} : lkM N K j 1 W = hoN (hfM W N K j) := rfl
theorem Sim.quietIn {r j N K c : Nat} (hr : 33 ≤ r) (hj : j < 8) (hN : N ≤ 12) : ∀ m p V W, c + p + m ≤ 2 ^ 30 → Bd V r → Sim V W r j N K (nI (c + p)) → (qtL N K j (m + 1) p W).2 = if quL (laV r N (nI c) m p V) r N 0 = true then laC r N (nI c) m p V else p + m + 1 := by
  intro m
  induction m with
  | zero =>
    intro p V W _ B H
    have e := H.quiet N 0 (by omega)
    unfold qtL laV laC
    rw [e]
    by_cases hq : qmL W j N 0 = true
    · rw [if_pos hq, if_pos hq]
    · rw [if_neg hq, if_neg hq]
      rfl
  | succ m ih =>
    intro p V W hp B H
    have e := H.quiet N 0 (by omega)
    unfold qtL laV laC
    by_cases hq : quL V r N 0 = true
    · rw [if_pos (by rw [← e]; exact hq), if_pos hq, if_pos hq, if_pos hq]
    · rw [if_neg (by rw [← e]; exact hq), if_neg hq, if_neg hq, nI_add, lkM_1]
      have H' := (H.hour B hr hj hN).next hj
      rw [nI_add] at H'
      rw [ih (p + 1) _ _ (by omega) (B.hour hN) H']
      split
      · rfl
      · omega
theorem Sim.quietR {V V0 W : Nat → Nat → Int32} {j N K c : Nat} (hj : j < 8) (hN : N ≤ 12) (hc : c ≤ 2 ^ 29) (B : Bd V 33) (H : Sim V W 33 j N K (nI c)) : (if quL (laV 33 N (nI c) 100 0 V) 33 N 0 = true then nI (laC 33 N (nI c) 100 0 V) else -1) = qtI (qtL N K j 101 0 W).2 := by
  rw [Sim.quietIn (c := c) (by omega) hj hN 100 0 V W (by omega) B H]
  have hle := laC_le (r := 33) (N := N) (h := nI c) 100 0 V
  unfold qtI
  split
  · rw [if_neg (by omega)]
  · rw [if_pos (by omega)]

def hcL (V : Nat → Nat → Int32) (r : Nat) : Nat → Nat → Nat → Nat
  | 0, _, a => a
  | m + 1, i, a => hcL V r m (i + 1) (if V (r + 2) i = -1 then a else a + 1)
theorem hcL_add {V : Nat → Nat → Int32} {r : Nat} : ∀ m i a, hcL V r m i a = a + hcL V r m i 0 := by
  intro m
  induction m with
  | zero => intro i a; rfl
  | succ m ih =>
    intro i a
    unfold hcL
    rw [ih, ih (i + 1) (if V (r + 2) i = -1 then 0 else 0 + 1)]
    split <;> omega
theorem hcL_congr {V V' : Nat → Nat → Int32} {r : Nat} : ∀ m i a, (∀ c, i ≤ c → V' (r + 2) c = V (r + 2) c) → hcL V' r m i a = hcL V r m i a := by
  intro m
  induction m with
  | zero => intro i a _; rfl
  | succ m ih =>
    intro i a h
    unfold hcL
    rw [h i (by omega), ih _ _ (fun c hc => h c (by omega))]
theorem Sim.hc {V W : Nat → Nat → Int32} {r j N K : Nat} {h : Int32} (H : Sim V W r j N K h) : ∀ m i a, i + m ≤ 12 → hcL V r m i a = hdL W j m i a := by
  intro m
  induction m with
  | zero => intro i a _; rfl
  | succ m ih =>
    intro i a hi
    have e2 : V (r + 2) i = W 135 (96 + 12 * j + i) := by rw [Nat.add_assoc 96]; exact H.1 2 i (by omega) (by omega) (by omega)
    unfold hcL hdL
    rw [e2, ih _ _ (by omega)]
    rfl
theorem brR_ne {V : Nat → Nat → Int32} {r f c o : Nat} {p h : Int32} (hc : c ≠ f) : brR V r f p h (r + o) c = V (r + o) c := by
  unfold brR
  split
  · rw [jv_Unj hc, jv_Unj hc, jv_Unj hc, jv_Unj hc]
  · rfl
theorem brD_ne {V : Nat → Nat → Int32} {r f c o : Nat} {h : Int32} (hc : c ≠ f) : brD V r f h (r + o) c = V (r + o) c := by
  unfold brD
  split
  · rfl
  · rw [jv_Unj hc, jv_Unj hc, jv_Unj hc, jv_Unj hc]
theorem hr1_ne {V : Nat → Nat → Int32} {r f c o : Nat} {h : Int32} (hc : c ≠ f) : hr1 V r f h (r + o) c = V (r + o) c := by
  have a : h1R V r f h (r + o) c = V (r + o) c := by
    unfold h1R
    split
    · rw [brR_ne hc, jv_Unj hc]
    · rfl
  unfold hr1 h1D
  split
  · rw [brD_ne hc, jv_Unj hc, a]
  · exact a
theorem brD_2 {V : Nat → Nat → Int32} {r f : Nat} {h : Int32} : brD V r f h (r + 2) = V (r + 2) := by
  unfold brD
  split
  · rfl
  · rw [jv_U_other (by omega), jv_U_other (by omega), jv_U_other (by omega), jv_U_other (by omega)]
theorem hr1_2 {V : Nat → Nat → Int32} {r f : Nat} {h : Int32} : hr1 V r f h (r + 2) f = if V (r + 7) f = h ∧ V (r + 1) f = 0 then h else V (r + 2) f := by
  have b : hr1 V r f h (r + 2) = h1R V r f h (r + 2) := by
    unfold hr1 h1D
    split
    · rw [brD_2, jv_U_other (by omega)]
    · rfl
  rw [b]
  unfold h1R
  by_cases h7 : V (r + 7) f = h
  · rw [if_pos h7]
    unfold brR
    rw [jv_Une (by omega : r + 1 ≠ r + 7)]
    by_cases h1 : V (r + 1) f = 0
    · rw [if_pos h1, if_pos ⟨h7, h1⟩, jv_Une (by omega), jv_Une (by omega), jv_Ueq]
    · rw [if_neg h1, if_neg (fun c => h1 c.2), jv_Une (by omega)]
  · rw [if_neg h7, if_neg (fun c => h7 c.1)]
theorem hrV_lo {r o c : Nat} {h : Int32} : ∀ m i V, c < i → hrV r h m i V (r + o) c = V (r + o) c := by
  intro m
  induction m with
  | zero => intro i V _; rfl
  | succ m ih =>
    intro i V hc
    show hrV r h m (i + 1) _ (r + o) c = _
    rw [ih _ _ (by omega), hr1_ne (by omega)]
def Zr (V : Nat → Nat → Int32) (r : Nat) : Prop := ∀ f, f < 12 → V (r + 1) f = 0 → V (r + 2) f = -1
theorem hrN_hc {r : Nat} {h : Int32} (hh : ¬ h = -1) : ∀ m i V b, i + m ≤ 12 → (∀ f, i ≤ f → f < 12 → V (r + 1) f = 0 → V (r + 2) f = -1) → nI (hcL (hrV r h m i V) r m i 0) + b = nI (hcL V r m i 0) + hrN r h m i V b := by
  intro m
  induction m with
  | zero => intro i V b _ _; rfl
  | succ m ih =>
    intro i V b hi Z
    have IH := ih (i + 1) (hr1 V r i h) (hnw V r i h b) (by omega) (fun f h1 h2 h3 => by
      rw [hr1_ne (by omega)] at h3
      rw [hr1_ne (by omega)]
      exact Z f (by omega) h2 h3)
    have e1 : hcL (hr1 V r i h) r m (i + 1) 0 = hcL V r m (i + 1) 0 := hcL_congr _ _ _ (fun c hc => hr1_ne (by omega))
    have e2 : hrV r h m (i + 1) (hr1 V r i h) (r + 2) i = hr1 V r i h (r + 2) i := hrV_lo _ _ _ (by omega)
    rw [e1] at IH
    show nI (hcL (hrV r h m (i + 1) (hr1 V r i h)) r (m + 1) i 0) + b = nI (hcL V r (m + 1) i 0) + hrN r h m (i + 1) (hr1 V r i h) (hnw V r i h b)
    unfold hcL
    rw [e2, hr1_2, hcL_add m (i + 1), hcL_add (V := V) m (i + 1)]
    unfold hnw at IH ⊢
    rw [jv_Une (by omega : r + 1 ≠ r + 7)] at IH ⊢
    by_cases hc : V (r + 7) i = h ∧ V (r + 1) i = 0
    · rw [if_pos hc, if_neg hh, if_pos (Z i (by omega) (by omega) hc.2), Nat.zero_add, ← nI_add]
      rw [if_pos hc.1, decide_eq_true hc.2] at IH ⊢
      rw [Nat.zero_add, ← IH]
      show nI 1 + _ + b = _ + (b + nI 1)
      rw [Int32.add_comm (nI 1), Int32.add_assoc, Int32.add_comm (nI 1)]
    · have en : (if V (r + 7) i = h then b + bz (decide (V (r + 1) i = 0)) else b) = b := by
        by_cases h7 : V (r + 7) i = h
        · rw [if_pos h7, decide_eq_false (fun c => hc ⟨h7, c⟩)]
          exact add_nI0 b
        · rw [if_neg h7]
      rw [en] at IH ⊢
      rw [if_neg hc, ← nI_add, ← nI_add, Int32.add_assoc, Int32.add_assoc, IH]
theorem te1_2 {V : Nat → Nat → Int32} {r N f o : Nat} {h : Int32} (ho : o ≤ 4) : te1 V r N f h (r + o) = V (r + o) := by
  have t1 : ∀ p m i U, trL r f p h m i U (r + o) = U (r + o) := by
    intro p m
    induction m with
    | zero => intro i U; rfl
    | succ m ih =>
      intro i U
      show trL r f p h m (i + 1) _ (r + o) = _
      rw [ih]
      unfold tr1
      split
      · rw [jv_U_other (by omega), jv_U_other (by omega)]
      · rfl
  have t2 : ∀ m i U, tdL r f h m i U (r + o) = U (r + o) := by
    intro m
    induction m with
    | zero => intro i U; rfl
    | succ m ih =>
      intro i U
      show tdL r f h m (i + 1) _ (r + o) = _
      rw [ih]
      unfold td1
      split
      · rw [jv_U_other (by omega)]
      · rfl
  have t3 : t1R V r N f h (r + o) = V (r + o) := by
    unfold t1R telR
    split
    · split
      · rw [t1, jv_U_other (by omega)]
      · rw [jv_U_other (by omega)]
    · rfl
  unfold te1 t1D
  split
  · rw [t2, jv_U_other (by omega), t3]
  · exact t3
theorem teL_2 {r N o : Nat} {h : Int32} (ho : o ≤ 4) : ∀ m i V, teL r N h m i V (r + o) = V (r + o) := by
  intro m
  induction m with
  | zero => intro i V; rfl
  | succ m ih =>
    intro i V
    show teL r N h m (i + 1) _ (r + o) = _
    rw [ih, te1_2 ho]
theorem phN_hc {V : Nat → Nat → Int32} {r N : Nat} {h : Int32} (hh : ¬ h = -1) (hN : N ≤ 12) (Z : Zr V r) : nI (hcL (phV V r N h) r N 0 0) = nI (hcL V r N 0 0) + phN V r N h := by
  have a := hrN_hc hh N 0 V (nI 0) (by omega) (fun f _ h2 h3 => Z f h2 h3)
  rw [add_nI0] at a
  unfold phN
  rw [← a]
  congr 1
  exact hcL_congr _ _ _ (fun c _ => by unfold phV; rw [teL_2 (by omega)])

theorem nI2_ne : ¬ nI 2 = 0 := by decide +kernel
theorem brR_s {V : Nat → Nat → Int32} {r f : Nat} {p h : Int32} : ¬ brR V r f p h (r + 1) f = 0 := by
  unfold brR
  split
  · rw [jv_Une (by omega), jv_Une (by omega), jv_Une (by omega), jv_Ueq]; exact nI1_ne
  · assumption
theorem brD_s {V : Nat → Nat → Int32} {r f : Nat} {h : Int32} : ¬ brD V r f h (r + 1) f = 0 := by
  unfold brD
  split
  · rename_i e; rw [e]; exact nI2_ne
  · rw [jv_Une (by omega), jv_Une (by omega), jv_Une (by omega), jv_Ueq]; exact nI2_ne
theorem Zr.deny {V : Nat → Nat → Int32} {r f : Nat} {h : Int32} (Z : Zr V r) : Zr (brD V r f h) r := by
  intro c hc h1
  by_cases e : c = f
  · subst e; exact absurd h1 brD_s
  · rw [brD_ne e] at h1 ⊢; exact Z c hc h1
theorem Zr.arr {V : Nat → Nat → Int32} {r f : Nat} {h : Int32} (Z : Zr V r) : Zr (hr1 V r f h) r := by
  intro c hc h1
  by_cases e : c = f
  · subst e
    have a : ¬ V (r + 7) c = h := by
      intro h7
      apply (show ¬ hr1 V r c h (r + 1) c = 0 from ?_) h1
      have b : ¬ h1R V r c h (r + 1) c = 0 := by unfold h1R; rw [if_pos h7]; exact brR_s
      unfold hr1 h1D
      split
      · exact brD_s
      · exact b
    have s : V (r + 1) c = 0 := by
      by_cases h9 : h1R V r c h (r + 9) c = h
      · unfold hr1 h1D at h1
        rw [if_pos h9] at h1
        exact absurd h1 brD_s
      · unfold hr1 h1D at h1
        rw [if_neg h9] at h1
        unfold h1R at h1
        rw [if_neg a] at h1
        exact h1
    rw [hr1_2, if_neg (fun d => a d.1)]
    exact Z c hc s
  · rw [hr1_ne e] at h1 ⊢; exact Z c hc h1
theorem Zr.hearL {r : Nat} {h : Int32} : ∀ m i V, Zr V r → Zr (hrV r h m i V) r := by
  intro m
  induction m with
  | zero => intro i V Z; exact Z
  | succ m ih => intro i V Z; exact ih _ _ Z.arr
theorem Zr.hour {V : Nat → Nat → Int32} {r N : Nat} {h : Int32} (Z : Zr V r) : Zr (phV V r N h) r := by
  intro c hc h1
  unfold phV at h1 ⊢
  rw [teL_2 (by omega)] at h1 ⊢
  exact Zr.hearL _ _ _ Z c hc h1

def Tch (i : Nat) (W W' : Nat → Nat → Int32) : Prop := (∀ q, q ≠ 135 → W' q = W q) ∧ ∀ c, ¬ (c < 864 ∧ c % 96 / 12 = i) → W' 135 c = W 135 c
theorem Tch.refl (i : Nat) (W : Nat → Nat → Int32) : Tch i W W := ⟨fun _ _ => rfl, fun _ _ => rfl⟩
theorem Tch.w {i : Nat} {W W' : Nat → Nat → Int32} {c : Nat} {x : Int32} (H : Tch i W W') (hc : c < 864 ∧ c % 96 / 12 = i) : Tch i W (jv_U W' 135 c x) := by
  refine ⟨fun q hq => by rw [jv_U_other hq]; exact H.1 q hq, fun d hd => ?_⟩
  have : d ≠ c := fun e => hd (by rw [e]; exact hc)
  rw [jv_Unj this]
  exact H.2 d hd
theorem Tch.he {i f : Nat} {W W' : Nat → Nat → Int32} {p : Int32} (H : Tch i W W') (hi : i < 8) (hf : f < 12) : Tch i W (heM W' (12 * i + f) p) := by
  unfold heM
  split
  · exact (((H.w (by omega)).w (by omega)).w (by omega)).w (by omega)
  · exact H
theorem Tch.de {i f : Nat} {W W' : Nat → Nat → Int32} (H : Tch i W W') (hi : i < 8) (hf : f < 12) : Tch i W (deM W' (12 * i + f)) := by
  unfold deM
  split
  · exact H
  · exact (((H.w (by omega)).w (by omega)).w (by omega)).w (by omega)
theorem Tch.arr {i f : Nat} {W W' : Nat → Nat → Int32} (H : Tch i W W') (hi : i < 8) (hf : f < 12) : Tch i W (arM W' (12 * i + f)) := by
  have a : Tch i W (arR W' (12 * i + f)) := by
    unfold arR
    split
    · exact (H.w (by omega)).he hi hf
    · exact H
  unfold arM arD
  split
  · exact (a.w (by omega)).de hi hf
  · exact a
theorem Tch.sr {i f K : Nat} {p : Int32} {W : Nat → Nat → Int32} (hi : i < 8) : ∀ m t W', t + m ≤ 12 → Tch i W W' → Tch i W (srL K i f p m t W') := by
  intro m
  induction m with
  | zero => intro t W' _ H; exact H
  | succ m ih =>
    intro t W' ht H
    refine ih _ _ (by omega) ?_
    unfold sr1
    split
    · exact H
    · split
      · exact (H.w (by omega)).w (by omega)
      · exact H
theorem Tch.sd {i f K : Nat} {W : Nat → Nat → Int32} (hi : i < 8) : ∀ m t W', t + m ≤ 12 → Tch i W W' → Tch i W (sdL K i f m t W') := by
  intro m
  induction m with
  | zero => intro t W' _ H; exact H
  | succ m ih =>
    intro t W' ht H
    refine ih _ _ (by omega) ?_
    unfold sd1
    split
    · exact H
    · exact H.w (by omega)
theorem Tch.te {i f N K : Nat} {W W' : Nat → Nat → Int32} (H : Tch i W W') (hi : i < 8) (hf : f < 12) (hN : N ≤ 12) : Tch i W (tmM W' N K i f) := by
  have a : Tch i W (tmR W' N K i f) := by
    unfold tmR tuR seR
    split
    · split
      · exact H.w (by omega)
      · exact Tch.sr hi _ _ _ (by omega) (H.w (by omega))
    · exact H
  unfold tmM tmD seD
  split
  · exact Tch.sd hi _ _ _ (by omega) (a.w (by omega))
  · exact a
theorem Tch.hour {i N K : Nat} {W : Nat → Nat → Int32} (hi : i < 8) (hN : N ≤ 12) : Tch i W (hfM W N K i) := by
  have a : ∀ m t W', t + m ≤ 12 → Tch i W W' → Tch i W (haL i m t W') := by
    intro m
    induction m with
    | zero => intro t W' _ H; exact H
    | succ m ih => intro t W' ht H; exact ih _ _ (by omega) (H.arr hi (by omega))
  have b : ∀ m t W', t + m ≤ 12 → Tch i W W' → Tch i W (htL N K i m t W') := by
    intro m
    induction m with
    | zero => intro t W' _ H; exact H
    | succ m ih => intro t W' ht H; exact ih _ _ (by omega) (H.te hi (by omega) hN)
  exact b _ _ _ (by omega) (a _ _ _ (by omega) (Tch.refl i W))
theorem Sim.other {V W W' : Nat → Nat → Int32} {j i N K : Nat} {h : Int32} (H : Sim V W (43 + 10 * j) j N K h) (hne : j ≠ i) (hj : j < 8) (hN : N ≤ 12) (T : Tch i W W') (V' : Nat → Nat → Int32) (hV : ∀ q, (q < 43 + 10 * i ∨ 43 + 10 * i + 9 < q) → V' q = V q) : Sim V' W' (43 + 10 * j) j N K h := by
  obtain ⟨a, b, c, d, e⟩ := H
  refine ⟨fun o f h1 h9 hf => ?_, fun f hf => ?_, fun p q hp hq => ?_, ?_, ?_⟩
  · rw [hV _ (by omega), T.2 _ (fun q => by
      have q2 := q.2
      unfold fo at q2
      split at q2
      · omega
      · split at q2 <;> omega)]
    exact a o f h1 h9 hf
  · rw [hV _ (by omega), T.1 _ (by omega)]; exact b f hf
  · rw [hoM_congr (V := W) (fun q h1 h2 => T.1 q (by omega))]
    rw [hV _ (by omega)]; exact c p q hp hq
  · rw [T.2 _ (by omega)]; exact d
  · rw [hV _ (by omega), T.1 _ (by omega)]; exact e

def SimA (V W : Nat → Nat → Int32) (N K R : Nat) (h : Int32) : Prop := ∀ j, j < R → Sim V W (43 + 10 * j) j N K h ∧ Bd V (43 + 10 * j) ∧ Zr V (43 + 10 * j)
theorem Bd.other {V V' : Nat → Nat → Int32} {r : Nat} (B : Bd V r) (h : ∀ o, o ≤ 9 → V' (r + o) = V (r + o)) : Bd V' r := by
  obtain ⟨a, b⟩ := B
  have h0 := h 0 (by omega)
  rw [Nat.add_zero] at h0
  exact ⟨by rw [h0]; exact a, fun f hf => by rw [h 4 (by omega), h 8 (by omega)]; exact b f hf⟩
theorem Zr.other {V V' : Nat → Nat → Int32} {r : Nat} (Z : Zr V r) (h : ∀ o, o ≤ 9 → V' (r + o) = V (r + o)) : Zr V' r := by
  intro f hf h1
  rw [h 1 (by omega)] at h1
  rw [h 2 (by omega)]
  exact Z f hf h1
theorem SimA.one {V W : Nat → Nat → Int32} {N K R i : Nat} {h : Int32} (H : SimA V W N K R h) (hN : N ≤ 12) (hR : R ≤ 8) (hi : i < R) : SimA (phV V (43 + 10 * i) N h) (hfM W N K i) N K R h := by
  intro j hj
  obtain ⟨a, b, c⟩ := H j hj
  by_cases e : j = i
  · subst e
    exact ⟨a.hour b (by omega) (by omega) hN, b.hour hN, c.hour⟩
  · have ho : ∀ q, (q < 43 + 10 * i ∨ 43 + 10 * i + 9 < q) → phV V (43 + 10 * i) N h q = V q := fun q hq => phV_out (by unfold Rout; omega)
    exact ⟨a.other e (by omega) hN (Tch.hour (by omega) hN) _ ho, b.other (fun o _ => ho _ (by omega)), c.other (fun o _ => ho _ (by omega))⟩
theorem SimA.all {N K R : Nat} {h : Int32} (hN : N ≤ 12) (hR : R ≤ 8) : ∀ m i V W, i + m ≤ R → SimA V W N K R h → SimA (inV N h m i V) (hqL N K m i W) N K R h := by
  intro m
  induction m with
  | zero => intro i V W _ H; exact H
  | succ m ih => intro i V W hi H; exact ih _ _ _ (by omega) (H.one hN hR (by omega))
theorem hdL_congr {W W' : Nat → Nat → Int32} {j : Nat} : ∀ m i a, (∀ c, i ≤ c → c < i + m → W' 135 (96 + 12 * j + c) = W 135 (96 + 12 * j + c)) → hdL W' j m i a = hdL W j m i a := by
  intro m
  induction m with
  | zero => intro i a _; rfl
  | succ m ih =>
    intro i a h
    unfold hdL
    rw [h i (by omega) (by omega), ih _ _ (fun c h1 h2 => h c (by omega) (by omega))]
theorem haA_add {W : Nat → Nat → Int32} {N : Nat} : ∀ m i a, haA W N m i a = a + haA W N m i 0 := by
  intro m
  induction m with
  | zero => intro i a; rfl
  | succ m ih =>
    intro i a
    unfold haA
    rw [ih, ih (i + 1) (0 + hdL W i N 0 0)]
    omega
theorem haA_congr {W W' : Nat → Nat → Int32} {N : Nat} : ∀ m i a, (∀ j, i ≤ j → j < i + m → hdL W' j N 0 0 = hdL W j N 0 0) → haA W' N m i a = haA W N m i a := by
  intro m
  induction m with
  | zero => intro i a _; rfl
  | succ m ih =>
    intro i a h
    unfold haA
    rw [h i (by omega) (by omega), ih _ _ (fun c h1 h2 => h c (by omega) (by omega))]
theorem Tch.hd {W W' : Nat → Nat → Int32} {i j N : Nat} (T : Tch i W W') (hne : j ≠ i) (hj : j < 8) (hN : N ≤ 12) : hdL W' j N 0 0 = hdL W j N 0 0 :=
  hdL_congr _ _ _ (fun c _ h2 => T.2 _ (fun q => by have := q.2; omega))
theorem hqL_lo {N K j : Nat} (hN : N ≤ 12) : ∀ m i W, j < i → i + m ≤ 8 → hdL (hqL N K m i W) j N 0 0 = hdL W j N 0 0 := by
  intro m
  induction m with
  | zero => intro i W _ _; rfl
  | succ m ih =>
    intro i W h1 h2
    show hdL (hqL N K m (i + 1) _) j N 0 0 = _
    rw [ih _ _ (by omega) (by omega), (Tch.hour (W := W) (K := K) (show i < 8 by omega) hN).hd (by omega) (by omega) hN]
theorem SimA.news {N K R : Nat} {h : Int32} (hh : ¬ h = -1) (hN : N ≤ 12) (hR : R ≤ 8) : ∀ m i V W b, i + m ≤ R → SimA V W N K R h → nI (haA (hqL N K m i W) N m i 0) + b = nI (haA W N m i 0) + inN N h m i V b := by
  intro m
  induction m with
  | zero => intro i V W b _ _; rfl
  | succ m ih =>
    intro i V W b hi H
    obtain ⟨s, bd, z⟩ := H i (by omega)
    have IH := ih (i + 1) _ _ (b + phN V (43 + 10 * i) N h) (by omega) (H.one hN hR (i := i) (by omega))
    have s' := s.hour bd (by omega) (by omega) hN
    have one := phN_hc hh hN z
    rw [s'.hc N 0 0 (by omega), s.hc N 0 0 (by omega)] at one
    have e1 : haA (hfM W N K i) N m (i + 1) 0 = haA W N m (i + 1) 0 := haA_congr _ _ _ (fun j h1 h2 => (Tch.hour (show i < 8 by omega) hN).hd (by omega) (by omega) hN)
    have e2 : hdL (hqL N K m (i + 1) (hfM W N K i)) i N 0 0 = hdL (hfM W N K i) i N 0 0 := hqL_lo hN _ _ _ (by omega) (by omega)
    rw [e1] at IH
    show nI (haA (hqL N K m (i + 1) (hfM W N K i)) N (m + 1) i 0) + b = nI (haA W N (m + 1) i 0) + inN N h m (i + 1) _ (b + phN V (43 + 10 * i) N h)
    unfold haA
    rw [e2, haA_add m (i + 1) (0 + _), haA_add (W := W) m (i + 1) (0 + _), Nat.zero_add, Nat.zero_add, ← nI_add, ← nI_add, one]
    rw [show ∀ p q c d : Int32, p + q + c + d = p + (c + (d + q)) from fun p q c d => by rw [Int32.add_assoc, Int32.add_assoc, Int32.add_comm q, Int32.add_assoc]]
    rw [IH, Int32.add_assoc]
theorem SimA.next {V W : Nat → Nat → Int32} {N K R : Nat} {h : Int32} (H : SimA V W N K R h) (hR : R ≤ 8) : SimA (jv_U V 0 5 (h + nI 1)) (hoN W) N K R (h + nI 1) := by
  intro j hj
  obtain ⟨a, b, c⟩ := H j hj
  have a' := a.next (by omega)
  have ho : ∀ q, q ≠ 0 → jv_U V 0 5 (h + nI 1) q = V q := fun q hq => jv_U_other hq
  obtain ⟨x1, x2, x3, x4, x5⟩ := a'
  exact ⟨⟨fun o f h1 h9 hf => by rw [ho _ (by omega)]; exact x1 o f h1 h9 hf, fun f hf => by rw [ho _ (by omega)]; exact x2 f hf, fun p q hp hq => by rw [ho _ (by omega)]; exact x3 p q hp hq, x4, by rw [ho _ (by omega)]; exact x5⟩, b.other (fun o _ => ho _ (by omega)), c.other (fun o _ => ho _ (by omega))⟩

theorem haA_hoN {W : Nat → Nat → Int32} {N R : Nat} (hN : N ≤ 12) (hR : R ≤ 8) : haA (hoN W) N R 0 0 = haA W N R 0 0 :=
  haA_congr _ _ _ (fun j _ h2 => hdL_congr _ _ _ (fun c _ h4 => by unfold hoN; rw [jv_Unj (by omega)]))
theorem pass_all {N K R : Nat} (hN : N ≤ 12) (hR : R ≤ 8) : ∀ m V W t b, t + m ≤ 2 ^ 30 → V 0 5 = nI t → SimA V W N K R (nI t) → SimA (ouV N R m V) (ouM N K R m W) N K R (nI (t + m)) ∧ ouV N R m V 0 5 = nI (t + m) ∧ nI (haA (ouM N K R m W) N R 0 0) + b = nI (haA W N R 0 0) + ouN N R m V b := by
  intro m
  induction m with
  | zero => intro V W t b _ h5 H; exact ⟨H, h5, rfl⟩
  | succ m ih =>
    intro V W t b ht h5 H
    have H1 := (SimA.all hN hR R 0 V W (by omega) H).next hR
    have e : alV N R V = jv_U (inV N (nI t) R 0 V) 0 5 (nI t + nI 1) := by unfold alV; rw [h5]
    have news := SimA.news (K := K) (h := nI t) (nI_nm1 (by omega)) hN hR R 0 V W b (by omega) H
    rw [nI_add] at H1 e
    have f5 : alV N R V 0 5 = nI (t + 1) := by rw [e, jv_Ueq]
    rw [← e] at H1
    obtain ⟨a1, a2, a3⟩ := ih (alV N R V) (houM W N K R) (t + 1) (inN N (V 0 5) R 0 V b) (by omega) f5 H1
    refine ⟨?_, ?_, ?_⟩
    · rw [show t + (m + 1) = t + 1 + m by omega]; exact a1
    · rw [show t + (m + 1) = t + 1 + m by omega]; exact a2
    · have hh : haA (houM W N K R) N R 0 0 = haA (hqL N K R 0 W) N R 0 0 := haA_hoN hN hR
      rw [hh] at a3
      show nI (haA (ouM N K R m (houM W N K R)) N R 0 0) + b = nI (haA W N R 0 0) + ouN N R m (alV N R V) (inN N (V 0 5) R 0 V b)
      rw [h5] at a3 ⊢
      have k1 : nI (haA (ouM N K R m (houM W N K R)) N R 0 0) + b + inN N (nI t) R 0 V b = nI (haA W N R 0 0) + ouN N R m (alV N R V) (inN N (nI t) R 0 V b) + inN N (nI t) R 0 V b := by
        rw [Int32.add_assoc, Int32.add_comm b, ← Int32.add_assoc, a3, Int32.add_assoc, Int32.add_comm (ouN N R m (alV N R V) (inN N (nI t) R 0 V b)) b, ← Int32.add_assoc, news, Int32.add_assoc, Int32.add_assoc, Int32.add_comm (inN N (nI t) R 0 V b)]
      have k2 := congrArg (fun x => x - inN N (nI t) R 0 V b) k1
      simp only [Int32.add_sub_cancel] at k2
      exact k2
theorem pass_news {N K R m t : Nat} {V W : Nat → Nat → Int32} (hN : N ≤ 12) (hR : R ≤ 8) (ht : t + m ≤ 2 ^ 30) (h5 : V 0 5 = nI t) (H : SimA V W N K R (nI t)) : nI (haA (ouM N K R m W) N R 0 0) - nI (haA W N R 0 0) = ouN N R m V (nI 0) := by
  have a := (pass_all hN hR m V W t (nI 0) ht h5 H).2.2
  rw [add_nI0] at a
  rw [a, Int32.add_comm, Int32.add_sub_cancel]

theorem cpR_at {V : Nat → Nat → Int32} {s r o f : Nat} (h1 : 1 ≤ o) (h9 : o ≤ 9) (hf : f < 12) (hsr : s + 9 < r ∨ r + 9 < s) : cpR V s r (r + o) f = V (s + o) f := by
  have hlt : ∀ (U : Nat → Nat → Int32) k, jv_cpy U (s + k) (r + k) 12 (r + k) f = U (s + k) f := by
    intro U k
    unfold jv_cpy
    rw [if_pos rfl, if_pos hf]
  have hne : ∀ (U : Nat → Nat → Int32) k q c, q ≠ r + k → jv_cpy U (s + k) (r + k) 12 q c = U q c := by
    intro U k q c h
    unfold jv_cpy
    rw [if_neg h]
  unfold cpR
  have hs : ∀ (U : Nat → Nat → Int32) k, k ≤ 9 → jv_cpy U (s + k) (r + k) 12 (s + o) f = U (s + o) f := fun U k hk => hne U k _ _ (by omega)
  have ho : o = 1 ∨ o = 2 ∨ o = 3 ∨ o = 4 ∨ o = 5 ∨ o = 6 ∨ o = 7 ∨ o = 8 ∨ o = 9 := by omega
  rcases ho with e | e | e | e | e | e | e | e | e <;> subst e
  · rw [hne _ 9 _ _ (by omega), hne _ 8 _ _ (by omega), hne _ 7 _ _ (by omega), hne _ 6 _ _ (by omega), hne _ 5 _ _ (by omega), hne _ 4 _ _ (by omega), hne _ 3 _ _ (by omega), hne _ 2 _ _ (by omega), hlt, jv_Une (by omega), jv_Une (by omega)]
  · rw [hne _ 9 _ _ (by omega), hne _ 8 _ _ (by omega), hne _ 7 _ _ (by omega), hne _ 6 _ _ (by omega), hne _ 5 _ _ (by omega), hne _ 4 _ _ (by omega), hne _ 3 _ _ (by omega), hlt, hs _ 1 (by omega), jv_Une (by omega), jv_Une (by omega)]
  · rw [hne _ 9 _ _ (by omega), hne _ 8 _ _ (by omega), hne _ 7 _ _ (by omega), hne _ 6 _ _ (by omega), hne _ 5 _ _ (by omega), hne _ 4 _ _ (by omega), hlt, hs _ 2 (by omega), hs _ 1 (by omega), jv_Une (by omega), jv_Une (by omega)]
  · rw [hne _ 9 _ _ (by omega), hne _ 8 _ _ (by omega), hne _ 7 _ _ (by omega), hne _ 6 _ _ (by omega), hne _ 5 _ _ (by omega), hlt, hs _ 3 (by omega), hs _ 2 (by omega), hs _ 1 (by omega), jv_Une (by omega), jv_Une (by omega)]
  · rw [hne _ 9 _ _ (by omega), hne _ 8 _ _ (by omega), hne _ 7 _ _ (by omega), hne _ 6 _ _ (by omega), hlt, hs _ 4 (by omega), hs _ 3 (by omega), hs _ 2 (by omega), hs _ 1 (by omega), jv_Une (by omega), jv_Une (by omega)]
  · rw [hne _ 9 _ _ (by omega), hne _ 8 _ _ (by omega), hne _ 7 _ _ (by omega), hlt, hs _ 5 (by omega), hs _ 4 (by omega), hs _ 3 (by omega), hs _ 2 (by omega), hs _ 1 (by omega), jv_Une (by omega), jv_Une (by omega)]
  · rw [hne _ 9 _ _ (by omega), hne _ 8 _ _ (by omega), hlt, hs _ 6 (by omega), hs _ 5 (by omega), hs _ 4 (by omega), hs _ 3 (by omega), hs _ 2 (by omega), hs _ 1 (by omega), jv_Une (by omega), jv_Une (by omega)]
  · rw [hne _ 9 _ _ (by omega), hlt, hs _ 7 (by omega), hs _ 6 (by omega), hs _ 5 (by omega), hs _ 4 (by omega), hs _ 3 (by omega), hs _ 2 (by omega), hs _ 1 (by omega), jv_Une (by omega), jv_Une (by omega)]
  · rw [hlt, hs _ 8 (by omega), hs _ 7 (by omega), hs _ 6 (by omega), hs _ 5 (by omega), hs _ 4 (by omega), hs _ 3 (by omega), hs _ 2 (by omega), hs _ 1 (by omega), jv_Une (by omega), jv_Une (by omega)]
theorem cpR_1 {V : Nat → Nat → Int32} {s r : Nat} (hsr : s ≠ r) : cpR V s r r 1 = V s 1 := by
  have hne : ∀ (U : Nat → Nat → Int32) k, 1 ≤ k → jv_cpy U (s + k) (r + k) 12 r 1 = U r 1 := by
    intro U k h
    unfold jv_cpy
    rw [if_neg (by omega)]
  unfold cpR
  rw [hne _ 9 (by omega), hne _ 8 (by omega), hne _ 7 (by omega), hne _ 6 (by omega), hne _ 5 (by omega), hne _ 4 (by omega), hne _ 3 (by omega), hne _ 2 (by omega), hne _ 1 (by omega), jv_Ueq]
theorem Sim.copy {V W : Nat → Nat → Int32} {j N K : Nat} {h : Int32} (H : Sim V W (43 + 10 * j) j N K h) (hN : N ≤ 12) : Sim (cpR V (43 + 10 * j) 33) (kpM W) 33 j N K h := by
  obtain ⟨a, b, c, d, e⟩ := H
  refine ⟨fun o f h1 h9 hf => ?_, fun f hf => ?_, fun p q hp hq => ?_, ?_, ?_⟩
  · rw [cpR_at h1 h9 hf (by omega), kpM_out (by omega)]; exact a o f h1 h9 hf
  · rw [cpR_out (by omega), kpM_out (by omega)]; exact b f hf
  · rw [cpR_out (by omega), hoM_congr (V := W) (fun q h1 h2 => kpM_out (by omega))]; exact c p q hp hq
  · rw [kpM_out (by omega)]; exact d
  · rw [cpR_1 (by omega), kpM_out (by omega)]; exact e
theorem Bd.copy {V : Nat → Nat → Int32} {j : Nat} (B : Bd V (43 + 10 * j)) : Bd (cpR V (43 + 10 * j) 33) 33 := by
  obtain ⟨a, b⟩ := B
  exact ⟨by rw [cpR_1 (by omega)]; exact a, fun f hf => by rw [cpR_at (by omega) (by omega) hf (by omega), cpR_at (by omega) (by omega) hf (by omega)]; exact b f hf⟩

theorem Sim.trial {V W : Nat → Nat → Int32} {j N K c : Nat} (H : Sim V W (43 + 10 * j) j N K (nI c)) (B : Bd V (43 + 10 * j)) (h5 : V 0 5 = nI c) (hj : j < 8) (hN : N ≤ 12) (hc : c ≤ 2 ^ 29) : ∃ t, Sim (triV V N j) (ieM W N K j) 33 j N K (nI t) := by
  unfold triV ieM
  rw [h5]
  exact Sim.look (c := c) (by omega) hj hN 100 0 _ _ (by omega) B.copy (H.copy hN)
theorem Sim.trialD {V W : Nat → Nat → Int32} {j N K c f : Nat} (H : Sim V W (43 + 10 * j) j N K (nI c)) (B : Bd V (43 + 10 * j)) (h5 : V 0 5 = nI c) (hj : j < 8) (hN : N ≤ 12) (hf : f < 12) (hc : c ≤ 2 ^ 29) : ∃ t, Sim (triD V N j f) (wiM W N K j f) 33 j N K (nI t) := by
  unfold triD wiM
  rw [h5]
  exact Sim.look (c := c) (by omega) hj hN 100 0 _ _ (by omega) B.copy.deny ((H.copy hN).deny (by omega) hj hN hf)
theorem Sim.trialQ {V W : Nat → Nat → Int32} {j N K c : Nat} (H : Sim V W (43 + 10 * j) j N K (nI c)) (B : Bd V (43 + 10 * j)) (h5 : V 0 5 = nI c) (hj : j < 8) (hN : N ≤ 12) (hc : c ≤ 2 ^ 29) : qtR V N j = qtI (qtM W N K j).2 := by
  unfold qtR triV qtM
  rw [h5]
  exact Sim.quietR (V0 := V) hj hN hc B.copy (H.copy hN)
theorem bb_kp {W X : Nat → Nat → Int32} (h : X 136 = kpM W 136) : ∀ c, c < 865 → bbM X 135 c = W 135 c := by
  intro c hc
  unfold bbM jv_cpy
  rw [if_pos rfl, if_pos hc, h]
  unfold kpM jv_cpy
  rw [if_pos rfl, if_pos hc]

theorem nrs_alike {V W : Nat → Nat → Int32} {N : Nat} (H : ∀ c, c < N → V 29 c = W 137 c ∧ (¬ V 29 c = -1 → V 30 c = W 138 c) ∧ (V 31 c = 0 ↔ W 139 c = 0)) : ∀ m i b, i + m ≤ N → (∀ j, b = some j → j < N ∧ ¬ V 29 j = -1) → nrs V 29 30 31 m i b = nrs W 137 138 139 m i b := by
  intro m
  induction m with
  | zero => intro i b _ _; rfl
  | succ m ih =>
    intro i b hi hb
    obtain ⟨e1, e2, e3⟩ := H i (by omega)
    have hc : ((V 31 i = 0 ∧ ¬ V 29 i = -1) ∧ btb V 29 30 b i = true) ↔ ((W 139 i = 0 ∧ ¬ W 137 i = -1) ∧ btb W 137 138 b i = true) := by
      rw [← e1, ← e3]
      constructor
      · rintro ⟨⟨a1, a2⟩, a3⟩
        refine ⟨⟨a1, a2⟩, ?_⟩
        cases b with
        | none => rfl
        | some j =>
          obtain ⟨j1, j2⟩ := hb j rfl
          obtain ⟨f1, f2, f3⟩ := H j j1
          unfold btb btI at a3 ⊢
          simp only [] at a3 ⊢
          rw [← e1, ← e2 a2, ← f1, ← f2 j2]
          exact a3
      · rintro ⟨⟨a1, a2⟩, a3⟩
        refine ⟨⟨a1, a2⟩, ?_⟩
        cases b with
        | none => rfl
        | some j =>
          obtain ⟨j1, j2⟩ := hb j rfl
          obtain ⟨f1, f2, f3⟩ := H j j1
          unfold btb btI at a3 ⊢
          simp only [] at a3 ⊢
          rw [← e1, ← e2 a2, ← f1, ← f2 j2] at a3
          exact a3
    show nrs V 29 30 31 m (i + 1) _ = nrs W 137 138 139 m (i + 1) _
    by_cases h : (V 31 i = 0 ∧ ¬ V 29 i = -1) ∧ btb V 29 30 b i = true
    · rw [if_pos h, if_pos (hc.mp h)]
      exact ih _ _ (by omega) (fun j hj => by cases hj; exact ⟨by omega, h.1.2⟩)
    · rw [if_neg h, if_neg (fun d => h (hc.mpr d))]
      exact ih _ _ (by omega) hb
theorem nrs_in {V : Nat → Nat → Int32} {h p s a : Nat} : ∀ m i b, nrs V h p s m i b = some a → b = some a ∨ (i ≤ a ∧ a < i + m ∧ V s a = 0 ∧ ¬ V h a = -1) := by
  intro m
  induction m with
  | zero => intro i b e; exact Or.inl e
  | succ m ih =>
    intro i b e
    have e' : nrs V h p s m (i + 1) (if (V s i = 0 ∧ ¬ V h i = -1) ∧ btb V h p b i = true then some i else b) = some a := e
    rcases ih _ _ e' with h1 | ⟨h1, h2, h3, h4⟩
    · split at h1
      · rename_i hc
        cases h1
        exact Or.inr ⟨by omega, by omega, hc.1.1, hc.1.2⟩
      · exact Or.inl h1
    · exact Or.inr ⟨by omega, by omega, h3, h4⟩
theorem nrs_min {V : Nat → Nat → Int32} {h p s a : Nat} : ∀ m i b, nrs V h p s m i b = some a → (∀ c, i ≤ c → c < i + m → V s c = 0 → ¬ V h c = -1 → V h a ≤ V h c) ∧ (∀ j, b = some j → V h a ≤ V h j) := by
  intro m
  induction m with
  | zero =>
    intro i b e
    refine ⟨fun c h1 h2 => by omega, fun j hj => ?_⟩
    have e' : b = some a := e
    rw [hj] at e'
    cases e'
    exact Int32.le_refl _
  | succ m ih =>
    intro i b e
    have e' : nrs V h p s m (i + 1) (if (V s i = 0 ∧ ¬ V h i = -1) ∧ btb V h p b i = true then some i else b) = some a := e
    obtain ⟨k1, k2⟩ := ih _ _ e'
    by_cases hc : (V s i = 0 ∧ ¬ V h i = -1) ∧ btb V h p b i = true
    · rw [if_pos hc] at k2
      have ki := k2 i rfl
      refine ⟨fun c h1 h2 h3 h4 => ?_, fun j hj => ?_⟩
      · by_cases ec : c = i
        · subst ec; exact ki
        · exact k1 c (by omega) (by omega) h3 h4
      · subst hj
        have hb := hc.2
        unfold btb btI at hb
        simp only [Bool.or_eq_true, Bool.and_eq_true, decide_eq_true_eq] at hb
        rcases hb with hb | ⟨hb, -⟩
        · exact Int32.le_trans ki (Int32.le_of_lt hb)
        · rw [← hb]; exact ki
    · rw [if_neg hc] at k2
      refine ⟨fun c h1 h2 h3 h4 => ?_, k2⟩
      by_cases ec : c = i
      · subst ec
        cases b with
        | none => exact absurd ⟨⟨h3, h4⟩, rfl⟩ hc
        | some j =>
          have kj := k2 j rfl
          refine Int32.le_trans kj (Int32.not_lt.mp (fun hlt => hc ⟨⟨h3, h4⟩, ?_⟩))
          unfold btb btI
          simp only [Bool.or_eq_true, Bool.and_eq_true, decide_eq_true_eq]
          exact Or.inl hlt
      · exact k1 c (by omega) (by omega) h3 h4
def WP (V W : Nat → Nat → Int32) (N K : Nat) : Prop := (∀ a b, a < N → b < N → V (8 + a) b = hoM W K a b ∧ (hoM W K a b = -1 ∨ ∃ p, hoM W K a b = nI p ∧ 1 ≤ p ∧ p ≤ 14)) ∧ ∀ a, a < N → V 3 a = W 125 a ∧ ∃ s, W 125 a = nI s ∧ s ≤ 9
theorem WP.to {V W V' W' : Nat → Nat → Int32} {N K : Nat} (H : WP V W N K) (hN : N ≤ 12) (hV : ∀ q, q < 29 → V' q = V q) (hW : ∀ q, 124 ≤ q → q ≤ 134 → W' q = W q) : WP V' W' N K := by
  obtain ⟨a, b⟩ := H
  refine ⟨fun p q hp hq => ?_, fun p hp => ?_⟩
  · rw [hV _ (by omega), hoM_congr (V := W) (fun q h1 h2 => hW q (by omega) (by omega))]; exact a p q hp hq
  · rw [hV _ (by omega), hW _ (by omega) (by omega)]; exact b p hp
def RW (V W : Nat → Nat → Int32) (N B M : Nat) : Prop := ∀ c, c < N → V 29 c = W 137 c ∧ (V 31 c = 0 ↔ W 139 c = 0) ∧ ((V 29 c = -1 ∧ V 30 c = -1 ∧ V 31 c = 0) ∨ ∃ t u, V 29 c = nI t ∧ V 30 c = nI u ∧ W 138 c = nI u ∧ t ≤ 23 * B ∧ u ≤ B ∧ (¬ V 31 c = 0 → t ≤ M) ∧ (V 31 c = 0 → M ≤ t))
theorem RW.ne {t : Nat} {x : Int32} (h : x = nI t) (ht : t < 2 ^ 31) : ¬ x = -1 := by rw [h]; exact nI_nm1 ht
theorem RW.near {V W : Nat → Nat → Int32} {N B M : Nat} (H : RW V W N B M) (hB : B ≤ 12) : nrs V 29 30 31 N 0 none = nrs W 137 138 139 N 0 none := by
  refine nrs_alike (N := N) (fun c hc => ?_) N 0 none (by omega) (fun j hj => by cases hj)
  obtain ⟨h1, h2, h3⟩ := H c hc
  refine ⟨h1, fun hn => ?_, h2⟩
  rcases h3 with h3 | ⟨t, u, e1, e2, e3, -⟩
  · exact absurd h3.1 hn
  · rw [e2, e3]
theorem RW.step {V W : Nat → Nat → Int32} {N K B a i ta ua : Nat} (H : RW V W N (B + 1) ta) (P : WP V W N K) (hB : B ≤ 12) (ha : a < N) (hi : i < N) (h1 : V 29 a = nI ta) (h2 : V 30 a = nI ua) (h3 : ¬ V 31 a = 0) (h4 : ta ≤ 23 * B) (h5 : ua ≤ B) :
    RW (ldb V 29 30 a i (V (8 + a) i) (V 3 a)) (rlb W K a i) N (B + 1) ta ∧ ldb V 29 30 a i (V (8 + a) i) (V 3 a) 29 a = nI ta ∧ ldb V 29 30 a i (V (8 + a) i) (V 3 a) 30 a = nI ua ∧ ldb V 29 30 a i (V (8 + a) i) (V 3 a) 31 = V 31 := by
  obtain ⟨p1, p2⟩ := P.1 a i ha hi
  obtain ⟨s1, s, s2, s3⟩ := P.2 a ha
  obtain ⟨g1, g2, g3⟩ := H i hi
  obtain ⟨a1, a2, a3⟩ := H a ha
  have w138 : W 138 a = nI ua := by
    rcases a3 with a3 | ⟨t, u, e1, e2, e3, -⟩
    · exact absurd a3.1 (RW.ne h1 (by omega))
    · rw [e3, ← e2, h2]
  unfold ldb rlb
  rw [p1, s1, s2, h1, h2, ← a1, h1, w138]
  rcases p2 with p2 | ⟨p, p2, p3, p4⟩
  · rw [p2, if_neg (fun c => c.1 rfl), if_neg (fun c => c.1 rfl)]
    exact ⟨H, h1, h2, rfl⟩
  · have hp : ¬ nI p = -1 := nI_nm1 (by omega)
    rw [p2, nI_add, nI_add, nI_add]
    by_cases hs : V 31 i = 0
    · have hc : (V 29 i = -1 ∨ btI V 29 30 (nI (ta + s + p)) (nI (ua + 1)) i = true) ↔ beB W (nI (ta + s + p)) (nI (ua + 1)) i = true := by
        unfold beB btI
        rw [← g1, decide_eq_true_iff]
        rcases g3 with g3 | ⟨t, u, e1, e2, e3, -⟩
        · exact ⟨fun _ => Or.inl g3.1, fun _ => Or.inl g3.1⟩
        · rw [e2, e3]
      have hia : a ≠ i := fun e => h3 (by rw [e]; exact hs)
      by_cases hb : V 29 i = -1 ∨ btI V 29 30 (nI (ta + s + p)) (nI (ua + 1)) i = true
      · rw [if_pos ⟨hp, hb⟩, if_pos ⟨hp, g2.mp hs, hc.mp hb⟩]
        refine ⟨fun c hc' => ?_, ?_, ?_, ?_⟩
        · by_cases ec : c = i
          · subst ec
            refine ⟨?_, ?_, Or.inr ⟨ta + s + p, ua + 1, ?_, ?_, ?_, by omega, by omega, fun hn => ?_, fun _ => by omega⟩⟩
            · rw [jv_Une (by omega), jv_Ueq, jv_Une (by omega), jv_Ueq]
            · rw [jv_Une (by omega), jv_Une (by omega), jv_Une (by omega), jv_Une (by omega)]; exact g2
            · rw [jv_Une (by omega), jv_Ueq]
            · rw [jv_Ueq]
            · rw [jv_Ueq]
            · rw [jv_Une (by omega), jv_Une (by omega)] at hn; exact absurd hs hn
          · have := H c hc'
            rw [jv_Unj ec, jv_Unj ec, jv_Unj ec, jv_Unj ec, jv_Unj ec, jv_Unj ec, jv_Unj ec, jv_Unj ec, jv_Unj ec, jv_Unj ec, jv_Unj ec, jv_Unj ec]
            exact this
        · rw [jv_Unj hia, jv_Unj hia]; exact h1
        · rw [jv_Unj hia, jv_Unj hia]; exact h2
        · rw [jv_U_other (by omega), jv_U_other (by omega)]
      · rw [if_neg (fun d => hb d.2), if_neg (fun d => hb (hc.mpr d.2.2))]
        exact ⟨H, h1, h2, rfl⟩
    · have hn : ¬ (V 29 i = -1 ∨ btI V 29 30 (nI (ta + s + p)) (nI (ua + 1)) i = true) := by
        rcases g3 with g3 | ⟨t, u, e1, e2, e3, e4, e5, e6, -⟩
        · exact absurd g3.2.2 hs
        · have ht := e6 hs
          unfold btI
          simp only [Bool.or_eq_true, Bool.and_eq_true, decide_eq_true_eq]
          rintro (c | c | ⟨c, -⟩)
          · exact RW.ne e1 (by omega) c
          · rw [e1] at c
            exact nI_nlt (by omega) (by omega) c
          · rw [e1, nI_eq (by omega) (by omega)] at c
            omega
      rw [if_neg (fun d => hn d.2), if_neg (fun d => hs (g2.mpr d.2.1))]
      exact ⟨H, h1, h2, rfl⟩
theorem ldb_o {V : Nat → Nat → Int32} {a i q : Nat} {x y : Int32} (h : q < 29 ∨ 30 < q) : ldb V 29 30 a i x y q = V q := by
  unfold ldb
  split
  · rw [jv_U_other (by omega), jv_U_other (by omega)]
  · rfl
theorem RW.relax {N K B a ta ua : Nat} (hN : N ≤ 12) (hB : B ≤ 12) (ha : a < N) (h4 : ta ≤ 23 * B) (h5 : ua ≤ B) : ∀ m i V W, i + m ≤ N → RW V W N (B + 1) ta → WP V W N K → V 29 a = nI ta → V 30 a = nI ua → ¬ V 31 a = 0 → RW (ldL a m i V) (rlL K a m i W) N (B + 1) ta := by
  intro m
  induction m with
  | zero => intro i V W _ H _ _ _ _; exact H
  | succ m ih =>
    intro i V W hi H P h1 h2 h3
    obtain ⟨s1, s2, s3, s4⟩ := H.step P hB ha (show i < N by omega) h1 h2 h3 h4 h5
    exact ih _ _ _ (by omega) s1 (P.to hN (fun q hq => ldb_o (by omega)) (fun q g1 g2 => rlb_out (by omega))) s2 s3 (by rw [s4]; exact h3)
theorem RW.rounds {N K : Nat} (hN : N ≤ 12) : ∀ m V W B M, B + m ≤ 12 → RW V W N B M → WP V W N K → ∃ B' M', B' ≤ 12 ∧ RW (rndC N m V) (rndM N K m W) N B' M' := by
  intro m
  induction m with
  | zero => intro V W B M hB H _; exact ⟨B, M, by omega, H⟩
  | succ m ih =>
    intro V W B M hB H P
    unfold rndC rndM
    rw [← H.near (by omega)]
    cases e : nrs V 29 30 31 N 0 none with
    | none => exact ⟨B, M, by omega, H⟩
    | some a =>
      simp only []
      have hin := nrs_in N 0 none e
      have hmin := (nrs_min N 0 none e).1
      rcases hin with hin | ⟨-, hin, us, rs⟩
      · cases hin
      have ha : a < N := by omega
      obtain ⟨a1, a2, a3⟩ := H a ha
      rcases a3 with a3 | ⟨ta, ua, e1, e2, e3, e4, e5, -, e7⟩
      · exact absurd a3.1 rs
      have hM := e7 us
      have H' : RW (jv_U V 31 a (nI 1)) (jv_U W 139 a (nI 1)) N (B + 1) ta := by
        intro c hc
        obtain ⟨c1, c2, c3⟩ := H c hc
        rw [jv_Une (by omega : 29 ≠ 31), jv_Une (by omega : 137 ≠ 139), jv_Une (by omega : 30 ≠ 31), jv_Une (by omega : 138 ≠ 139)]
        by_cases ec : c = a
        · subst ec
          rw [jv_Ueq, jv_Ueq]
          exact ⟨c1, Iff.rfl, Or.inr ⟨ta, ua, e1, e2, e3, by omega, by omega, fun _ => Nat.le_refl _, fun h => absurd h nI1_ne⟩⟩
        · rw [jv_Unj ec, jv_Unj ec]
          refine ⟨c1, c2, ?_⟩
          rcases c3 with c3 | ⟨t, u, f1, f2, f3, f4, f5, f6, f7⟩
          · exact Or.inl c3
          · refine Or.inr ⟨t, u, f1, f2, f3, by omega, by omega, fun h => by have := f6 h; omega, fun h => ?_⟩
            have hm := hmin c (by omega) (by omega) h (RW.ne f1 (by omega))
            rw [e1, f1, nI_leI (by omega) (by omega)] at hm
            exact hm
      have P' : WP (jv_U V 31 a (nI 1)) (jv_U W 139 a (nI 1)) N K := P.to hN (fun q hq => jv_U_other (by omega)) (fun q g1 g2 => jv_U_other (by omega))
      have R := RW.relax hN (show B ≤ 12 by omega) ha (by omega) (by omega) N 0 _ _ (by omega) H' P' (by rw [jv_Une (by omega)]; exact e1) (by rw [jv_Une (by omega)]; exact e2) (by rw [jv_Ueq]; exact nI1_ne)
      exact ih _ _ (B + 1) ta (by omega) R (P'.to hN (fun q hq => ldL_out (by omega) (by omega) _ _ _) (fun q g1 g2 => rlL_out (by omega) _ _ _))
def Wy (V W : Nat → Nat → Int32) (N f : Nat) : Prop := V 29 f = nI 0 ∧ ∀ c, c < N → V 29 c = W 137 c ∧ ((V 29 c = -1 ∧ V 30 c = -1) ∨ ∃ t, V 29 c = nI t ∧ t < 400 ∧ V 30 c = W 138 c)
theorem ways_alike {V W : Nat → Nat → Int32} {N K f : Nat} (P : WP V W N K) (hN : N ≤ 12) (hf : f < N) : Wy (fndC V N f) (wayM W N K f) N f := by
  have H0 : RW (jv_U (jv_U (iniC V 12) 29 f (nI 0)) 30 f (nI 0)) (jv_U (jv_U (iniM W N) 137 f (nI 0)) 138 f (nI 0)) N 0 0 := by
    intro c hc
    have i31 : iniC V 12 31 c = 0 := by unfold iniC; rw [if_pos (by omega), if_neg (by omega), if_neg (by omega), if_pos rfl]; exact nI_0
    have i29 : iniC V 12 29 c = -1 := by unfold iniC; rw [if_pos (by omega), if_pos rfl]
    have i30 : iniC V 12 30 c = -1 := by unfold iniC; rw [if_pos (by omega), if_neg (by omega), if_pos rfl]
    have j139 : iniM W N 139 c = 0 := by unfold iniM; rw [if_pos hc, if_neg (by omega), if_pos rfl]; exact nI_0
    have j137 : iniM W N 137 c = -1 := by unfold iniM; rw [if_pos hc, if_pos rfl]
    rw [jv_Une (by omega : 31 ≠ 30), jv_Une (by omega : 31 ≠ 29), jv_Une (by omega : 139 ≠ 138), jv_Une (by omega : 139 ≠ 137), i31, j139, jv_Une (by omega : 29 ≠ 30), jv_Une (by omega : 137 ≠ 138)]
    by_cases ec : c = f
    · subst ec
      rw [jv_Ueq, jv_Ueq, jv_Ueq, jv_Ueq]
      exact ⟨rfl, Iff.rfl, Or.inr ⟨0, 0, rfl, rfl, rfl, by omega, by omega, fun _ => by omega, fun _ => by omega⟩⟩
    · rw [jv_Unj ec, jv_Unj ec, jv_Unj ec, jv_Unj ec, jv_Unj ec, i29, i30, j137]
      exact ⟨rfl, Iff.rfl, Or.inl ⟨rfl, rfl, rfl⟩⟩
  obtain ⟨B, M, hB, R⟩ := RW.rounds (K := K) hN N _ _ 0 0 (by omega) H0 (P.to hN (fun q hq => by rw [jv_U_other (by omega), jv_U_other (by omega), iniC_out (by omega)]) (fun q g1 g2 => by rw [jv_U_other (by omega), jv_U_other (by omega), iniM_out (by omega)]))
  have R' : RW (fndC V N f) (wayM W N K f) N B M := R
  refine ⟨by rw [(R' f hf).1]; exact wayM_self hf, fun c hc => ?_⟩
  obtain ⟨h1, -, h3⟩ := R' c hc
  refine ⟨h1, ?_⟩
  rcases h3 with h3 | ⟨t, u, e1, e2, e3, e4, -⟩
  · exact Or.inl ⟨h3.1, h3.2.1⟩
  · exact Or.inr ⟨t, e1, by omega, by rw [e2, e3]⟩

theorem far_lt {V : Nat → Nat → Int32} {N : Nat} : ∀ m i b, i + m ≤ N → b < N → farL V m i b < N := by
  intro m
  induction m with
  | zero => intro i b _ h; exact h
  | succ m ih =>
    intro i b hi h
    unfold farL
    split
    · exact ih _ _ (by omega) h
    · exact ih _ _ (by omega) (by omega)
theorem far_alike {V W : Nat → Nat → Int32} {N f : Nat} (H : Wy V W N f) (hf : f < N) : ∀ m i b, i + m ≤ N → b < N → (b = f ∨ b < i) → farL V m i b = fmL W m i b := by
  intro m
  induction m with
  | zero => intro i b _ _ _; rfl
  | succ m ih =>
    intro i b hi hb hbi
    have e1 := (H.2 i (by omega)).1
    have e2 := (H.2 b hb).1
    have e3 := (H.2 f hf).1
    unfold farL fmL
    rw [← e1, ← e2]
    by_cases hc : V 29 i ≤ V 29 b
    · rw [if_pos hc, if_neg]
      · exact ih _ _ (by omega) hb (by omega)
      · rintro (c | ⟨c1, c2, c3⟩)
        · exact absurd hc (Int32.not_le.mpr c)
        · have eb : b = f := by omega
          subst eb
          rw [c1, H.1, nI_0] at c3
          exact c3 (Int32.le_refl _)
    · rw [if_neg hc, if_pos (Or.inl (Int32.not_le.mp hc))]
      exact ih _ _ (by omega) (by omega) (by omega)
theorem gth_alike {V W : Nat → Nat → Int32} {N f : Nat} (H : Wy V W N f) : ∀ m i b, i + m ≤ N → gthL V m i (V 29 b) = if aaL W m i = true then V 29 (farL V m i b) else -1 := by
  intro m
  induction m with
  | zero => intro i b _; rfl
  | succ m ih =>
    intro i b hi
    have e1 := (H.2 i (by omega)).1
    unfold gthL aaL farL
    rw [← e1]
    by_cases hc : V 29 i = -1
    · rw [if_pos hc, if_pos hc, if_neg (by decide)]
    · rw [if_neg hc, if_neg hc]
      by_cases hl : V 29 i ≤ V 29 b
      · rw [if_neg (Int32.not_lt.mpr hl), if_pos hl]
        exact ih _ _ (by omega)
      · rw [if_pos (Int32.not_le.mp hl), if_neg hl]
        exact ih _ _ (by omega)
theorem aaL_all {W : Nat → Nat → Int32} : ∀ m i, aaL W m i = true → ∀ c, i ≤ c → c < i + m → ¬ W 137 c = -1 := by
  intro m
  induction m with
  | zero => intro i _ c h1 h2; omega
  | succ m ih =>
    intro i h c h1 h2
    unfold aaL at h
    split at h
    · cases h
    · rename_i hn
      by_cases e : c = i
      · subst e; exact hn
      · exact ih _ h c (by omega) (by omega)
theorem gth_md {V W : Nat → Nat → Int32} {N f : Nat} (H : Wy V W N f) (hf : f < N) : (¬ gthL V N 0 (nI 0) = -1 ↔ aaL W N 0 = true) ∧ (aaL W N 0 = true → gthL V N 0 (nI 0) = W 137 (fmL W N 0 f)) := by
  have e := gth_alike H N 0 f (by omega)
  rw [H.1] at e
  have e2 := far_alike H hf N 0 f (by omega) hf (Or.inl rfl)
  have e3 := far_lt (V := V) N 0 f (by omega) hf
  have e4 := (H.2 _ e3).1
  by_cases ha : aaL W N 0 = true
  · rw [if_pos ha] at e
    have hn := aaL_all N 0 ha _ (Nat.zero_le _) (by omega : farL V N 0 f < 0 + N)
    refine ⟨⟨fun _ => ha, fun _ => ?_⟩, fun _ => ?_⟩
    · rw [e, e4]; exact hn
    · rw [e, e4, e2]
  · rw [if_neg ha] at e
    exact ⟨⟨fun h => absurd e h, fun h => absurd h ha⟩, fun h => absurd h ha⟩
theorem WP.way {V W : Nat → Nat → Int32} {N K f g : Nat} (P : WP V W N K) (hN : N ≤ 12) : WP (fndC V N f) (wayM W N K g) N K :=
  P.to hN (fun q hq => fndC_out (by omega)) (fun q h1 h2 => wayM_out (by omega))
theorem cen_alike {N K : Nat} (hN : N ≤ 12) : ∀ m i V W b l, i + m ≤ N → WP V W N K → (cenL N m i V b l).2 = (mdL N K m i W b l).2 := by
  intro m
  induction m with
  | zero => intro i V W b l _ _; rfl
  | succ m ih =>
    intro i V W b l hi P
    have H := ways_alike P hN (show i < N by omega)
    obtain ⟨g1, g2⟩ := gth_md H (by omega)
    unfold cenL mdL
    by_cases ha : aaL (wayM W N K i) N 0 = true
    · have e := g2 ha
      by_cases hl : b = none ∨ gthL (fndC V N i) N 0 (nI 0) < l
      · rw [if_pos ⟨g1.mpr ha, hl⟩, if_pos ⟨ha, by rw [← e]; exact hl⟩, ← e]
        exact ih _ _ _ _ _ (by omega) (P.way hN)
      · rw [if_neg (fun c => hl c.2), if_neg (fun c => hl (by rw [e]; exact c.2))]
        exact ih _ _ _ _ _ (by omega) (P.way hN)
    · rw [if_neg (fun c => ha (g1.mp c.1)), if_neg (fun c => ha c.1)]
      exact ih _ _ _ _ _ (by omega) (P.way hN)
theorem lbw_fs {V W : Nat → Nat → Int32} {N f : Nat} (H : Wy V W N f) (hf : f < N) : ∀ m i, i + m = f → (lbwL V m i = true ↔ ¬ fsL W (N - i) i = f) := by
  intro m
  induction m with
  | zero =>
    intro i hi
    have ei : i = f := by omega
    subst ei
    have e1 := (H.2 i hf).1
    rw [H.1] at e1
    obtain ⟨k, hk⟩ : ∃ k, N - i = k + 1 := ⟨N - i - 1, by omega⟩
    rw [hk]
    unfold lbwL fsL
    rw [← e1, if_neg (nI_nm1 (by omega))]
    exact ⟨fun h => (by cases h), fun h => absurd rfl h⟩
  | succ m ih =>
    intro i hi
    have e1 := (H.2 i (by omega)).1
    have IH := ih (i + 1) (by omega)
    obtain ⟨k, hk⟩ : ∃ k, N - i = k + 1 := ⟨N - i - 1, by omega⟩
    rw [show N - (i + 1) = k by omega] at IH
    rw [hk]
    unfold lbwL fsL
    rw [← e1]
    by_cases hc : V 29 i = -1
    · rw [if_neg (fun h => h hc), if_pos hc]; exact IH
    · rw [if_pos hc, if_neg hc]
      exact ⟨fun _ => by omega, fun _ => rfl⟩
theorem par_alike {N K : Nat} (hN : N ≤ 12) : ∀ m i V W a, i + m ≤ N → WP V W N K → (parL N m i V a).2 = (pnL N K m i W a).2 := by
  intro m
  induction m with
  | zero => intro i V W a _ _; rfl
  | succ m ih =>
    intro i V W a hi P
    have H := ways_alike P hN (show i < N by omega)
    have e := lbw_fs H (by omega) i 0 (by omega)
    rw [Nat.sub_zero] at e
    unfold parL pnL
    by_cases hc : fsL (wayM W N K i) N 0 = i
    · rw [if_neg (fun h => e.mp h hc), if_pos hc]
      exact ih _ _ _ _ (by omega) (P.way hN)
    · rw [if_pos (e.mpr hc), if_neg hc]
      exact ih _ _ _ _ (by omega) (P.way hN)
theorem nei_alike {V W : Nat → Nat → Int32} {N K f : Nat} (P : ∀ a b, a < N → b < N → V (8 + a) b = hoM W K a b) (hf : f < N) : ∀ m i a, i + m ≤ N → neighboursL V f m i a = arL W K f m i a := by
  intro m
  induction m with
  | zero => intro i a _; rfl
  | succ m ih =>
    intro i a hi
    unfold neighboursL arL
    rw [P f i hf (by omega)]
    exact ih _ _ (by omega)
theorem pb_alike {V W : Nat → Nat → Int32} {N f c : Nat} (H : Wy V W N f) (hc : c < N) : V 30 c = pbM (W 137 c) (W 138 c) := by
  obtain ⟨h1, h2⟩ := H.2 c hc
  unfold pbM
  rw [← h1]
  rcases h2 with h2 | ⟨t, e1, e2, e3⟩
  · rw [if_pos h2.1, h2.2]
  · rw [if_neg (by rw [e1]; exact nI_nm1 (by omega)), e3]

def mg (V W : Nat → Nat → Int32) : Nat → Nat → Int32 := fun q => if q < 123 then V q else W q
theorem mg_lo {V W : Nat → Nat → Int32} {q : Nat} (h : q < 123) : mg V W q = V q := by unfold mg; rw [if_pos h]
theorem mg_hi {V W : Nat → Nat → Int32} {q : Nat} (h : ¬ q < 123) : mg V W q = W q := by unfold mg; rw [if_neg h]
theorem mg_4 {V W : Nat → Nat → Int32} : mg V W 4 = V 4 := mg_lo (by omega)
theorem mg_5 {V W : Nat → Nat → Int32} : mg V W 5 = V 5 := mg_lo (by omega)
theorem mg_126 {V W : Nat → Nat → Int32} : mg V W 126 = W 126 := mg_hi (by omega)
theorem mg_127 {V W : Nat → Nat → Int32} : mg V W 127 = W 127 := mg_hi (by omega)
theorem mg_132 {V W : Nat → Nat → Int32} : mg V W 132 = W 132 := mg_hi (by omega)
theorem mg_L {V W : Nat → Nat → Int32} {k : Nat} (h : k < 4) : mg V W (20 + 2 * k) = V (20 + 2 * k) := mg_lo (by omega)
theorem hrs_cg {V V' : Nat → Nat → Int32} {q lo hi : Nat} (h0 : V' q = V q) (h1 : V' (q + 1) = V (q + 1)) : hrs V' q lo hi = hrs V q lo hi := by
  unfold hrs
  rw [h0, h1]
theorem fhL_cg {V V' : Nat → Nat → Int32} {lo hi : Nat} (h : ∀ q, 20 ≤ q → q < 28 → V' q = V q) : ∀ m i a, i + m ≤ 4 → fhL V' lo hi m i a = fhL V lo hi m i a := by
  intro m
  induction m with
  | zero => intro i a _; rfl
  | succ m ih =>
    intro i a hi'
    unfold fhL
    rw [hrs_cg (h _ (by omega) (by omega)) (h _ (by omega) (by omega)), ih _ _ (by omega)]
theorem fh_cg {V V' : Nat → Nat → Int32} {K lo hi : Nat} (hK : K ≤ 4) (h4 : V' 4 = V 4) (h5 : V' 5 = V 5) (h : ∀ q, 20 ≤ q → q < 28 → V' q = V q) : fh V' K lo hi = fh V K lo hi := by
  unfold fh
  rw [h4, h5, fhL_cg h _ _ _ (by omega)]
theorem layX_cg {V V' : Nat → Nat → Int32} {K q c : Nat} (hK : K ≤ 4) (h4 : V' 4 = V 4) (h5 : V' 5 = V 5) (h : ∀ q, 20 ≤ q → q < 28 → V' q = V q) : layX V' K q c = layX V K q c := by
  unfold layX
  rw [fh_cg hK h4 h5 h, fh_cg hK h4 h5 h]
theorem pipes2 {V W : Nat → Nat → Int32} {N K : Nat} (hL : LiA (mg V W) K) (hS : StA (mg V W)) (hK : K ≤ 4) (hN : N ≤ 12) : ∀ a b, a < N → b < N → layV V N K (8 + a) b = hoM W K a b := by
  intro a b ha hb
  unfold layV
  rw [if_pos ⟨by omega, by omega, hb⟩, ← layX_cg (V' := mg V W) hK (mg_lo (by omega)) (mg_lo (by omega)) (fun q h1 h2 => mg_lo (by omega)), layX_hoM hL hS (by omega) (by omega)]
  exact hoM_congr (fun q h1 h2 => mg_hi (by omega))
theorem hoL_ok {M : Nat → Nat → Int32} {K a b ap : Nat} (hL : LiA M K) (hap : ap ≤ 11) : ∀ m i acc, i + m ≤ K → okP acc → okP (hoL M a b ap m i acc) := by
  intro m
  induction m with
  | zero => intro i acc _ h; exact h
  | succ m ih =>
    intro i acc hi h
    refine ih _ _ (by omega) ?_
    obtain ⟨lo, hi', ev, wt, -, -, -, e4, -, -, -, -, c5, c6, -⟩ := hL i (by omega)
    have hn : okP (M 131 i + nI (ap / 2)) := Or.inr ⟨wt + ap / 2, by rw [e4, nI_add], by omega, by omega⟩
    split
    · split
      · exact hn
      · split
        · exact hn
        · exact h
    · exact h
theorem hoM_ok {M : Nat → Nat → Int32} {K a b : Nat} (hL : LiA M K) (hs : ∀ f, f < 12 → ∃ s, M 126 f = nI s ∧ 1 ≤ s ∧ s ≤ 9) (ha : a < 12) (hb : b < 12) : okP (hoM M K a b) := by
  unfold hoM hoX
  split
  · exact Or.inl rfl
  · have h1 : max a b - min a b ≤ 11 := by omega
    have h2 : min a b < 12 := by omega
    generalize min a b = mn at h1 h2
    generalize max a b = mx' at h1
    refine hoL_ok hL h1 _ _ _ (by omega) ?_
    split
    · obtain ⟨s, e1, e2, e3⟩ := hs mn h2
      exact Or.inr ⟨s, e1, e2, by omega⟩
    · exact Or.inl rfl
theorem LiA.congr {M M' : Nat → Nat → Int32} {K : Nat} (hL : LiA M K) (hK : K ≤ 4) (h1 : ∀ q, 20 ≤ q → q < 28 → M' q = M q) (h2 : ∀ q, 128 ≤ q → q ≤ 132 → M' q = M q) : LiA M' K := by
  intro k hk
  have := hL k hk
  rw [h1 (20 + 2 * k + 1) (by omega) (by omega), h1 (20 + 2 * k) (by omega) (by omega), h2 128 (by omega) (by omega), h2 129 (by omega) (by omega), h2 130 (by omega) (by omega), h2 131 (by omega) (by omega), h2 132 (by omega) (by omega)]
  exact this
theorem StA.congr {M M' : Nat → Nat → Int32} (hS : StA M) (h4 : M' 4 = M 4) (h5 : M' 5 = M 5) (h6 : M' 126 = M 126) (h7 : M' 127 = M 127) : StA M' := by
  intro f hf
  have := hS f hf
  rw [h4, h5, h6, h7]
  exact this
def TW (V W : Nat → Nat → Int32) (K : Nat) : Prop := LiA (mg V W) K ∧ StA (mg V W) ∧ (∀ f, f < 12 → V 2 f = W 124 f ∧ ∃ a, W 124 f = nI a ∧ a ≤ 99) ∧ (∀ f, f < 12 → V 3 f = W 125 f ∧ ∃ a, W 125 f = nI a ∧ a ≤ 9) ∧ (∀ f, f < 12 → ∃ a, W 126 f = nI a ∧ 1 ≤ a ∧ a ≤ 9) ∧ ∀ f, f < 12 → W 127 f = 0 ∨ W 127 f = 1
def PW (V W : Nat → Nat → Int32) (N K : Nat) : Prop := ∀ a b, a < N → b < N → V (8 + a) b = hoM W K a b
def INV (V W : Nat → Nat → Int32) (N K R t : Nat) : Prop := Ct V N K R ∧ V 0 5 = nI t ∧ Mt W N K R ∧ W 135 864 = nI t ∧ TW V W K ∧ PW V W N K ∧ (∀ j, j < R → V (43 + 10 * j) 0 = W 133 j) ∧ SimA V W N K R (nI t)
def EqV (V' V : Nat → Nat → Int32) : Prop := ∀ q, q < 123 → ¬ (29 ≤ q ∧ q ≤ 31) → ¬ (33 ≤ q ∧ q ≤ 42) → V' q = V q
def EqW (W' W : Nat → Nat → Int32) : Prop := (∀ c, c ≠ 0 → W' 123 c = W 123 c) ∧ (∀ q, 124 ≤ q → q ≤ 134 → W' q = W q) ∧ ∀ c, c < 865 → W' 135 c = W 135 c
theorem EqV.refl (V : Nat → Nat → Int32) : EqV V V := fun _ _ _ _ => rfl
theorem EqW.refl (W : Nat → Nat → Int32) : EqW W W := ⟨fun _ _ => rfl, fun _ _ _ => rfl, fun _ _ => rfl⟩
theorem EqV.trans {A B C : Nat → Nat → Int32} (h1 : EqV A B) (h2 : EqV B C) : EqV A C := fun q a b c => (h1 q a b c).trans (h2 q a b c)
theorem EqW.trans {A B C : Nat → Nat → Int32} (h1 : EqW A B) (h2 : EqW B C) : EqW A C := ⟨fun c h => (h1.1 c h).trans (h2.1 c h), fun q a b => (h1.2.1 q a b).trans (h2.2.1 q a b), fun c h => (h1.2.2 c h).trans (h2.2.2 c h)⟩
theorem SimA.to {V W V' W' : Nat → Nat → Int32} {N K R N' K' : Nat} {h : Int32} (H : SimA V W N K R h) (hR : R ≤ 8) (h43 : ∀ q, 43 ≤ q → q < 123 → V' q = V q) (b' : ∀ f, f < 12 → V' 3 f = W' 125 f) (c' : PW V' W' N' K') (h135 : ∀ c, c < 865 → W' 135 c = W 135 c) (h134 : ∀ j, j < R → W' 134 j = W 134 j) : SimA V' W' N' K' R h := by
  intro j hj
  obtain ⟨⟨a, -, -, d, e⟩, bd, zr⟩ := H j hj
  refine ⟨⟨fun o f h1 h9 hf => ?_, b', c', ?_, ?_⟩, bd.other (fun o ho => h43 _ (by omega) (by omega)), zr.other (fun o ho => h43 _ (by omega) (by omega))⟩
  · have := fo_le h9
    rw [h43 _ (by omega) (by omega), h135 _ (by omega)]; exact a o f h1 h9 hf
  · rw [h135 _ (by omega)]; exact d
  · rw [h43 _ (by omega) (by omega), h134 j hj]; exact e
theorem TW.to {V W V' W' : Nat → Nat → Int32} {K : Nat} (H : TW V W K) (hK : K ≤ 4) (e1 : ∀ q, (2 ≤ q ∧ q ≤ 5) ∨ (20 ≤ q ∧ q < 28) → V' q = V q) (e2 : ∀ q, 124 ≤ q → q ≤ 132 → W' q = W q) : TW V' W' K := by
  obtain ⟨a, b, c, d, e, f⟩ := H
  have v : ∀ q, (2 ≤ q ∧ q ≤ 5) ∨ (20 ≤ q ∧ q < 28) → mg V' W' q = mg V W q := fun q h => by rw [mg_lo (by omega), mg_lo (by omega)]; exact e1 q h
  have w : ∀ q, 124 ≤ q → q ≤ 132 → mg V' W' q = mg V W q := fun q h1 h2 => by rw [mg_hi (by omega), mg_hi (by omega)]; exact e2 q h1 h2
  refine ⟨a.congr hK (fun q h1 h2 => v q (by omega)) (fun q h1 h2 => w q (by omega) h2), b.congr (v 4 (by omega)) (v 5 (by omega)) (w 126 (by omega) (by omega)) (w 127 (by omega) (by omega)), ?_, ?_, ?_, ?_⟩
  · rw [e1 2 (by omega), e2 124 (by omega) (by omega)]; exact c
  · rw [e1 3 (by omega), e2 125 (by omega) (by omega)]; exact d
  · rw [e2 126 (by omega) (by omega)]; exact e
  · rw [e2 127 (by omega) (by omega)]; exact f
theorem TW.st {V W : Nat → Nat → Int32} {K : Nat} (H : TW V W K) : ∀ f, f < 12 → V 4 f = W 126 f ∧ V 5 f = W 127 f := by
  intro f hf
  have := H.2.1 f hf
  rw [mg_4, mg_5, mg_126, mg_127] at this
  exact this
theorem INV.to {V W V' W' : Nat → Nat → Int32} {N K R t : Nat} (H : INV V W N K R t) (e1 : EqV V' V) (e2 : EqW W' W) : INV V' W' N K R t := by
  obtain ⟨hC, h5, hM, h8, hT, hP, hO, hS⟩ := H
  have hN := hC.2.2.2.2.1
  have hK := hC.2.2.2.2.2.1
  have hR := hC.2.2.2.2.2.2
  have hP' : PW V' W' N K := fun a b ha hb => by
    rw [e1 _ (by omega) (by omega) (by omega), hoM_congr (V := W) (fun q h1 h2 => e2.2.1 q (by omega) (by omega))]; exact hP a b ha hb
  have hT' : TW V' W' K := hT.to hK (fun q h => e1 q (by omega) (by omega) (by omega)) (fun q h1 h2 => e2.2.1 q h1 (by omega))
  refine ⟨hC.o (e1 0 (by omega) (by omega) (by omega)) (e1 1 (by omega) (by omega) (by omega)), by rw [e1 0 (by omega) (by omega) (by omega)]; exact h5, hM.to (e2.1 1 (by omega)) (e2.1 2 (by omega)) (e2.1 3 (by omega)) (e2.2.1 130 (by omega) (by omega)), by rw [e2.2.2 864 (by omega)]; exact h8, hT', hP', fun j hj => ?_, ?_⟩
  · rw [e1 _ (by omega) (by omega) (by omega), e2.2.1 133 (by omega) (by omega)]; exact hO j hj
  · exact hS.to hR (fun q h1 h2 => e1 q h2 (by omega) (by omega)) (fun f hf => (hT'.2.2.2.1 f hf).1) hP' e2.2.2 (fun j _ => by rw [e2.2.1 134 (by omega) (by omega)])
theorem INV.start {V V1 : Nat → Nat → Int32} {N K R t : Nat} (H : INV V V N K R t) (h : ∀ q, 123 ≤ q → V1 q = V q) : INV V V1 N K R t :=
  H.to (EqV.refl V) ⟨fun c _ => by rw [h _ (by omega)], fun q h1 _ => h q (by omega), fun c _ => by rw [h _ (by omega)]⟩
theorem INV.self {V1 W : Nat → Nat → Int32} {N K R t : Nat} (H : INV V1 W N K R t) (h : ∀ q, q < 123 → W q = V1 q) : INV W W N K R t :=
  H.to (fun q h1 _ _ => h q h1) (EqW.refl W)
theorem INV.wp {V W : Nat → Nat → Int32} {N K R t : Nat} (H : INV V W N K R t) : WP V W N K := by
  obtain ⟨hC, h5, hM, h8, hT, hP, hO, hS⟩ := H
  have hN := hC.2.2.2.2.1
  have hK := hC.2.2.2.2.2.1
  refine ⟨fun a b ha hb => ⟨hP a b ha hb, ?_⟩, fun a ha => hT.2.2.2.1 a (by omega)⟩
  have := hoM_ok (a := a) (b := b) hT.1 (fun f hf => by rw [mg_hi (by omega)]; exact hT.2.2.2.2.1 f hf) (by omega) (by omega)
  rw [hoM_congr (V := W) (fun q h1 h2 => mg_hi (by omega))] at this
  exact this
theorem INV.N12 {V W : Nat → Nat → Int32} {N K R t : Nat} (H : INV V W N K R t) : N ≤ 12 := H.1.2.2.2.2.1
theorem INV.K4 {V W : Nat → Nat → Int32} {N K R t : Nat} (H : INV V W N K R t) : K ≤ 4 := H.1.2.2.2.2.2.1
theorem INV.R8 {V W : Nat → Nat → Int32} {N K R t : Nat} (H : INV V W N K R t) : R ≤ 8 := H.1.2.2.2.2.2.2
theorem EqW_t {W : Nat → Nat → Int32} {x : Int32} : EqW (jv_U W 123 0 x) W := ⟨fun c h => by rw [jv_Unj h], fun q h1 h2 => jv_U_other (by omega), fun c _ => by rw [jv_Une (by omega)]⟩
theorem EqW_t0 {W : Nat → Nat → Int32} : EqW (t0 W) W := EqW_t
theorem EqW_t1 {W : Nat → Nat → Int32} {c : Nat} : EqW (t1 W c) W := EqW.trans EqW_t EqW_t
theorem EqW_t2 {W : Nat → Nat → Int32} {c : Nat} : EqW (t2 W c) W := EqW_t
theorem EqV_fnd {V : Nat → Nat → Int32} {N f : Nat} : EqV (fndC V N f) V := fun q h1 h2 h3 => fndC_out (by omega)
theorem EqW_way {W : Nat → Nat → Int32} {N K f : Nat} : EqW (wayM W N K f) W := ⟨fun c _ => by rw [wayM_out (by omega)], fun q h1 h2 => wayM_out (by omega), fun c _ => by rw [wayM_out (by omega)]⟩
theorem EqW_of {W' W : Nat → Nat → Int32} (h : ∀ q, 123 ≤ q → q ≤ 135 → W' q = W q) : EqW W' W := ⟨fun c _ => by rw [h _ (by omega) (by omega)], fun q h1 h2 => h q (by omega) (by omega), fun c _ => by rw [h _ (by omega) (by omega)]⟩

theorem INV.sim {V W : Nat → Nat → Int32} {N K R t j : Nat} (H : INV V W N K R t) (hj : j < R) : Sim V W (43 + 10 * j) j N K (nI t) := (H.2.2.2.2.2.2.2 j hj).1
theorem INV.bd {V W : Nat → Nat → Int32} {N K R t j : Nat} (H : INV V W N K R t) (hj : j < R) : Bd V (43 + 10 * j) := (H.2.2.2.2.2.2.2 j hj).2.1
theorem INV.hd {V W : Nat → Nat → Int32} {N K R t : Nat} (H : INV V W N K R t) : ∀ f, f < 12 → V 2 f = W 124 f := fun f hf => (H.2.2.2.2.1.2.2.1 f hf).1
theorem EqV_tri {V : Nat → Nat → Int32} {N j : Nat} : EqV (triV V N j) V := fun q h1 h2 h3 => triV_out (by omega)
theorem EqV_triD {V : Nat → Nat → Int32} {N j f : Nat} : EqV (triD V N j f) V := fun q h1 h2 h3 => triD_out (by omega)
theorem EqW_bb {W X : Nat → Nat → Int32} (h : ∀ q, 123 ≤ q → q ≤ 134 → X q = W q) (h6 : X 136 = kpM W 136) : EqW (bbM X) W :=
  ⟨fun c _ => by rw [bbM_out (by omega), h _ (by omega) (by omega)], fun q h1 h2 => by rw [bbM_out (by omega), h _ (by omega) h2], fun c hc => bb_kp h6 c hc⟩
theorem EqW_ie {W : Nat → Nat → Int32} {N K j : Nat} : EqW (bbM (ieM W N K j)) W := EqW_bb (fun q h1 h2 => ieM_out (by omega)) (by unfold ieM; exact lkM_out (by omega) _ _)
theorem EqW_wi {W : Nat → Nat → Int32} {N K j f : Nat} : EqW (bbM (wiM W N K j f)) W := EqW_bb (fun q h1 h2 => wiM_out (by omega)) (by unfold wiM; rw [lkM_out (by omega), deM_out (by omega)])
theorem qtL_o {N K r q : Nat} (h : q ≠ 135) : ∀ m p W, (qtL N K r m p W).1 q = W q := by
  intro m
  induction m with
  | zero => intro p W; rfl
  | succ m ih =>
    intro p W
    unfold qtL
    split
    · rfl
    · rw [ih, lkM_out h]
theorem EqW_qt {W : Nat → Nat → Int32} {N K j : Nat} : EqW (bbM (qtM W N K j).1) W := EqW_bb (fun q h1 h2 => by unfold qtM; rw [qtL_o (by omega), kpM_out (by omega)]) (by unfold qtM; rw [qtL_o (by omega)])
theorem INV.tri {V W : Nat → Nat → Int32} {N K R t j : Nat} (H : INV V W N K R t) (ht : t ≤ 2 ^ 29) (hj : j < R) : INV (triV V N j) (bbM (ieM W N K j)) N K R t ∧ hbL (triV V N j) 33 N 0 (nI 0) = beL (ieM W N K j) j N 0 (nI 0) ∧ ∀ f, f < 12 → triV V N j 35 f = ieM W N K j 135 (96 + 12 * j + f) := by
  have hR := H.R8
  have hN := H.N12
  obtain ⟨t', S⟩ := Sim.trial (H.sim hj) (H.bd hj) H.2.1 (by omega) hN ht
  refine ⟨H.to EqV_tri EqW_ie, S.heads (fun f hf => ?_) _ _ _ (by omega), fun f hf => ?_⟩
  · rw [triV_out (by omega), ieM_out (by omega)]; exact H.hd f hf
  · rw [Nat.add_assoc 96]; exact S.1 2 f (by omega) (by omega) hf
theorem INV.trd {V W : Nat → Nat → Int32} {N K R t j f : Nat} (H : INV V W N K R t) (ht : t ≤ 2 ^ 29) (hj : j < R) (hf : f < N) : INV (triD V N j f) (bbM (wiM W N K j f)) N K R t ∧ hbL (triD V N j f) 33 N 0 (nI 0) = beL (wiM W N K j f) j N 0 (nI 0) := by
  have hR := H.R8
  have hN := H.N12
  obtain ⟨t', S⟩ := Sim.trialD (H.sim hj) (H.bd hj) H.2.1 (by omega) hN (show f < 12 by omega) ht
  refine ⟨H.to EqV_triD EqW_wi, S.heads (fun f hf => ?_) _ _ _ (by omega)⟩
  rw [triD_out (by omega), wiM_out (by omega)]; exact H.hd f hf
theorem INV.triQ {V W : Nat → Nat → Int32} {N K R t j : Nat} (H : INV V W N K R t) (ht : t ≤ 2 ^ 29) (hj : j < R) : INV (triV V N j) (bbM (qtM W N K j).1) N K R t ∧ qtR V N j = qtI (qtM W N K j).2 := by
  have hR := H.R8
  exact ⟨H.to EqV_tri EqW_qt, Sim.trialQ (H.sim hj) (H.bd hj) H.2.1 (by omega) H.N12 ht⟩
theorem bd_alike {N K R t j : Nat} (ht : t ≤ 2 ^ 29) (hj : j < R) : ∀ m i V W b l, i + m ≤ N → INV V W N K R t → INV (bdV N j m i V) (dnV N K j m i W) N K R t ∧ bdB N j m i V b l = dnB N K j m i W b l := by
  intro m
  induction m with
  | zero => intro i V W b l _ H; exact ⟨H, rfl⟩
  | succ m ih =>
    intro i V W b l hi H
    obtain ⟨T1, T2⟩ := H.trd ht hj (show i < N by omega)
    refine ⟨(ih (i + 1) _ _ b l (by omega) T1).1, ?_⟩
    unfold bdB dnB
    rw [T2]
    by_cases hc : l ≤ beL (wiM W N K j i) j N 0 (nI 0)
    · rw [if_pos hc, if_neg (Int32.not_lt.mpr hc)]
      exact (ih _ _ _ _ _ (by omega) T1).2
    · rw [if_neg hc, if_pos (Int32.not_le.mp hc)]
      exact (ih _ _ _ _ _ (by omega) T1).2
theorem INV.bestD {V W : Nat → Nat → Int32} {N K R t j : Nat} (H : INV V W N K R t) (ht : t ≤ 2 ^ 29) (hj : j < R) : INV (bdV N j (N - 1) 1 (triD V N j 0)) (dnX W N K j) N K R t ∧ bdB N j (N - 1) 1 (triD V N j 0) 0 (hbL (triD V N j 0) 33 N 0 (nI 0)) = dnR W N K j := by
  have hN2 := H.1.2.2.2.1
  obtain ⟨T1, T2⟩ := H.trd ht hj (show 0 < N by omega)
  obtain ⟨a, b⟩ := bd_alike ht hj (N - 1) 1 _ _ 0 (hbL (triD V N j 0) 33 N 0 (nI 0)) (by omega) T1
  refine ⟨a, ?_⟩
  rw [b, T2]
  rfl
theorem INV.lay {V W V1 W1 : Nat → Nat → Int32} {N K K' R t : Nat} (H : INV V W N K R t) (hC : Ct V1 N K' R) (hM : Mt W1 N K' R) (hT : TW V1 W1 K') (h0 : V1 0 = V 0) (h43 : ∀ q, 43 ≤ q → q < 123 → V1 q = V q) (hw : ∀ q, 133 ≤ q → q ≤ 135 → W1 q = W q) : INV (layV V1 N K') W1 N K' R t := by
  obtain ⟨-, h5, -, h8, -, -, hO, hS⟩ := H
  have hN := hC.2.2.2.2.1
  have hK := hC.2.2.2.2.2.1
  have hR := hC.2.2.2.2.2.2
  have hP : PW (layV V1 N K') W1 N K' := pipes2 hT.1 hT.2.1 hK hN
  have hT' : TW (layV V1 N K') W1 K' := hT.to hK (fun q h => layV_out (by omega)) (fun q h1 h2 => rfl)
  refine ⟨hC.o (layV_out (by omega)) (layV_out (by omega)), by rw [layV_out (by omega), h0]; exact h5, hM, by rw [hw 135 (by omega) (by omega)]; exact h8, hT', hP, fun j hj => ?_, ?_⟩
  · rw [layV_out (by omega), h43 _ (by omega) (by omega), hw 133 (by omega) (by omega)]; exact hO j hj
  · exact hS.to hR (fun q h1 h2 => by rw [layV_out (by omega), h43 q h1 h2]) (fun f hf => (hT'.2.2.2.1 f hf).1) hP (fun c _ => by rw [hw 135 (by omega) (by omega)]) (fun j _ => by rw [hw 134 (by omega) (by omega)])
theorem TW.open_ {V W : Nat → Nat → Int32} {K i : Nat} {b : Int32} (H : TW V W K) (hK : K ≤ 4) (hb : b = 0 ∨ b = 1) : TW (jv_U V 5 i b) (jv_U W 127 i b) K := by
  have st := H.st
  obtain ⟨h1, h2, h3, h4, h5, h6⟩ := H
  refine ⟨h1.congr hK (fun q g1 g2 => ?_) (fun q g1 g2 => ?_), fun f hf => ?_, ?_, ?_, ?_, fun f hf => ?_⟩
  · rw [mg_lo (by omega), mg_lo (by omega), jv_U_other (by omega)]
  · rw [mg_hi (by omega), mg_hi (by omega), jv_U_other (by omega)]
  · rw [mg_4, mg_5, mg_126, mg_127, jv_U_other (by omega : 4 ≠ 5), jv_U_other (by omega : 126 ≠ 127)]
    obtain ⟨s1, s2⟩ := st f hf
    refine ⟨s1, ?_⟩
    by_cases e : f = i
    · subst e; rw [jv_Ueq, jv_Ueq]
    · rw [jv_Unj e, jv_Unj e]; exact s2
  · rw [jv_U_other (by omega), jv_U_other (by omega)]; exact h3
  · rw [jv_U_other (by omega), jv_U_other (by omega)]; exact h4
  · rw [jv_U_other (by omega)]; exact h5
  · by_cases e : f = i
    · subst e; rw [jv_Ueq]; exact hb
    · rw [jv_Unj e]; exact h6 f hf
theorem INV.shut {V W : Nat → Nat → Int32} {N K R t i : Nat} {b : Int32} (H : INV V W N K R t) (hb : b = 0 ∨ b = 1) : INV (shuV V N K i b) (jv_U W 127 i b) N K R t :=
  H.lay (H.1.o (jv_U_other (by omega)) (jv_U_other (by omega))) (U127_Mt H.2.2.1) (H.2.2.2.2.1.open_ H.K4 hb) (jv_U_other (by omega)) (fun q h1 h2 => jv_U_other (by omega)) (fun q h1 h2 => jv_U_other (by omega))
theorem bs_alike {N K R t j : Nat} (ht : t ≤ 2 ^ 29) (hj : j < R) : ∀ m i V W b l, i + m ≤ 12 → INV V W N K R t → INV (bsL N K j m i V b l).1 (shL N K j m i W b l).1 N K R t ∧ (bsL N K j m i V b l).2 = (shL N K j m i W b l).2 := by
  intro m
  induction m with
  | zero => intro i V W b l _ H; exact ⟨H, rfl⟩
  | succ m ih =>
    intro i V W b l hi H
    have e5 := (H.2.2.2.2.1.st i (by omega)).2
    unfold bsL shL
    rw [e5]
    by_cases h0 : W 127 i = 0
    · rw [if_pos h0, if_pos h0]
      exact ih _ _ _ _ _ (by omega) H
    · rw [if_neg h0, if_neg h0]
      have S0 : INV (shuV V N K i (nI 0)) (jv_U W 127 i (nI 0)) N K R t := H.shut (Or.inl nI_0)
      obtain ⟨T1, T2, -⟩ := S0.tri ht hj
      have S1 : INV (shoV V N K j i) (smO W N K j i) N K R t := T1.shut (i := i) (b := nI 1) (Or.inr (by decide +kernel))
      have T3 : hbL (shtV V N K j i) 33 N 0 (nI 0) = beL (smV W N K j i) j N 0 (nI 0) := T2
      rw [T3]
      by_cases hc : l ≤ beL (smV W N K j i) j N 0 (nI 0)
      · rw [if_pos hc, if_neg (Int32.not_lt.mpr hc)]
        exact ih _ _ _ _ _ (by omega) S1
      · rw [if_neg hc, if_pos (Int32.not_le.mp hc)]
        exact ih _ _ _ _ _ (by omega) S1
theorem INV.bestS {V W : Nat → Nat → Int32} {N K R t j : Nat} (H : INV V W N K R t) (ht : t ≤ 2 ^ 29) (hj : j < R) : INV (bsL N K j (N - 1) 0 (triV V N j) none (hbL (triV V N j) 33 N 0 (nI 0))).1 (shX W N K j).1 N K R t ∧ (bsL N K j (N - 1) 0 (triV V N j) none (hbL (triV V N j) 33 N 0 (nI 0))).2 = (shX W N K j).2 := by
  have hN := H.N12
  obtain ⟨T1, T2, -⟩ := H.tri ht hj
  have := bs_alike (K := K) ht hj (N - 1) 0 _ _ none (hbL (triV V N j) 33 N 0 (nI 0)) (by omega) T1
  rw [T2] at this ⊢
  exact this

theorem INV.row {V W W' : Nat → Nat → Int32} {N K R t : Nat} (H : INV V W N K R t) (h : ∀ q, 123 ≤ q → q ≤ 135 → W' q = W q) : INV V W' N K R t := H.to (EqV.refl V) (EqW_of h)
theorem INV.way {V W : Nat → Nat → Int32} {N K R t f g : Nat} (H : INV V W N K R t) : INV (fndC V N f) (wayM W N K g) N K R t := H.to EqV_fnd EqW_way
theorem INV.pw {V W : Nat → Nat → Int32} {N K R t : Nat} (H : INV V W N K R t) : ∀ a b, a < N → b < N → V (8 + a) b = hoM W K a b := H.2.2.2.2.2.1
theorem fmF_row {W : Nat → Nat → Int32} {N K n i : Nat} (hn : 140 < n) : fmF W N K n i n 0 = W 124 i ∧ fmF W N K n i n 1 = W 125 i ∧ fmF W N K n i n 2 = nI (arL (fmA W n i) K i N 0 0) ∧ fmF W N K n i n 3 = nI (fmL (fmC W N K n i) N 0 i) ∧ fmF W N K n i n 4 = fmE W N K n i 137 i := by
  have a0 : fmA W n i n 0 = W 124 i := by unfold fmA; rw [jv_Unj (by omega), jv_Ueq]
  have a1 : fmA W n i n 1 = W 125 i := by
    unfold fmA; rw [jv_Ueq]
  have b : ∀ k, k ≠ 2 → fmB W N K n i n k = fmA W n i n k := fun k hk => by unfold fmB; rw [jv_Unj hk]
  have c : fmC W N K n i n = fmB W N K n i n := by unfold fmC; exact wayM_out (by omega)
  have d : ∀ k, k ≠ 3 → fmD W N K n i n k = fmC W N K n i n k := fun k hk => by unfold fmD; rw [jv_Unj hk]
  have e : fmE W N K n i n = fmD W N K n i n := by unfold fmE; exact wayM_out (by omega)
  have f : ∀ k, k ≠ 4 → fmF W N K n i n k = fmE W N K n i n k := fun k hk => by unfold fmF; rw [jv_Unj hk]
  refine ⟨?_, ?_, ?_, ?_, ?_⟩
  · rw [f 0 (by omega), e, d 0 (by omega), c, b 0 (by omega), a0]
  · rw [f 1 (by omega), e, d 1 (by omega), c, b 1 (by omega), a1]
  · rw [f 2 (by omega), e, d 2 (by omega), c]; unfold fmB; rw [jv_Ueq]
  · rw [f 3 (by omega), e]; unfold fmD; rw [jv_Ueq]
  · unfold fmF; rw [jv_Ueq]
theorem dgF_alike {N K R t : Nat} : ∀ m i n V W d, i + m ≤ N → 140 < n → INV V W N K R t → INV (dgF N m i V d).1 (dmF N K m i n W d).1 N K R t ∧ (dgF N m i V d).2 = (dmF N K m i n W d).2 := by
  intro m
  induction m with
  | zero => intro i n V W d _ _ H; exact ⟨H, rfl⟩
  | succ m ih =>
    intro i n V W d hi hn H
    have hN := H.N12
    have hN2 := H.1.2.2.2.1
    have HA : INV V (fmA W n i) N K R t := H.row (fun q h1 h2 => by unfold fmA; rw [jv_U_other (by omega), jv_U_other (by omega), NV_o (by omega)])
    have HB : INV V (fmB W N K n i) N K R t := HA.row (fun q h1 h2 => by unfold fmB; rw [jv_U_other (by omega)])
    have Y1 : Wy (fndC V N i) (fmC W N K n i) N i := ways_alike HB.wp hN (by omega)
    have HC : INV (fndC V N i) (fmC W N K n i) N K R t := HB.way
    have HD : INV (fndC V N i) (fmD W N K n i) N K R t := HC.row (fun q h1 h2 => by unfold fmD; rw [jv_U_other (by omega)])
    have Y2 : Wy (fndC (fndC V N i) N 0) (fmE W N K n i) N 0 := ways_alike HD.wp hN (by omega)
    have HE : INV (fndC (fndC V N i) N 0) (fmE W N K n i) N K R t := HD.way
    have HF : INV (fndC (fndC V N i) N 0) (fmF W N K n i) N K R t := HE.row (fun q h1 h2 => by unfold fmF; rw [jv_U_other (by omega)])
    have e1 := nei_alike HA.pw (show i < N by omega) N 0 0 (by omega)
    have e2 := far_alike Y1 (by omega) N 0 i (by omega) (by omega) (Or.inl rfl)
    have e3 := (Y2.2 i (by omega)).1
    have e4 := H.hd i (by omega)
    have e5 := (H.2.2.2.2.1.2.2.2.1 i (by omega)).1
    obtain ⟨r0, r1, r2, r3, r4⟩ := fmF_row (W := W) (N := N) (K := K) (i := i) hn
    have key : mx (mx (mx (mx (mx d (V 2 i).toInt64) (V 3 i).toInt64) (nI (neighboursL V i N 0 0)).toInt64) (nI (farL (fndC V N i) N 0 i)).toInt64) (fndC (fndC V N i) N 0 29 i).toInt64 = mxL (fmF W N K n i) n 5 0 d := by
      show _ = mx (mx (mx (mx (mx d (fmF W N K n i n 0).toInt64) (fmF W N K n i n 1).toInt64) (fmF W N K n i n 2).toInt64) (fmF W N K n i n 3).toInt64) (fmF W N K n i n 4).toInt64
      rw [r0, r1, r2, r3, r4, e1, e2, e3, e4, e5]
    unfold dgF dmF
    rw [key]
    exact ih _ _ _ _ _ (by omega) (by omega) HF
theorem bo_64 (x : Int32) : (bo x).toInt64 = if x = 0 then 0 else 1 := by
  unfold bo
  by_cases h : x = 0
  · rw [if_pos h, if_pos h]; rfl
  · rw [if_neg h, if_neg h]; rfl
theorem dgS_alike {V W : Nat → Nat → Int32} (h : ∀ f, f < 12 → V 4 f = W 126 f ∧ V 5 f = W 127 f) : ∀ m i d, i + m ≤ 12 → dgS V m i d = ssL W m i d := by
  intro m
  induction m with
  | zero => intro i d _; rfl
  | succ m ih =>
    intro i d hi
    obtain ⟨h1, h2⟩ := h i (by omega)
    unfold dgS ssL
    rw [h1, h2, bo_64, ih _ _ (by omega)]
theorem TW.run {V W : Nat → Nat → Int32} {K l : Nat} (H : TW V W K) (hK : K ≤ 4) (hl : l < K) : V (20 + 2 * l) 0 = W 132 l ∧ (W 132 l = 0 ∨ W 132 l = 1) := by
  obtain ⟨lo, hi, ev, wt, -, -, -, -, -, -, -, -, -, -, -, c8, -, c10⟩ := H.1 l hl
  rw [mg_L (show l < 4 by omega), mg_132] at c8
  rw [mg_hi (by omega)] at c10
  exact ⟨c8, c10⟩
theorem dgL_alike {V W : Nat → Nat → Int32} {K : Nat} (h : ∀ l, l < K → V (20 + 2 * l) 0 = W 132 l) : ∀ m i d, i + m ≤ K → dgL V m i d = slL W m i d := by
  intro m
  induction m with
  | zero => intro i d _; rfl
  | succ m ih =>
    intro i d hi
    unfold dgL slL
    rw [h i (by omega), bo_64, ih _ _ (by omega)]
theorem wrL_alike {V W : Nat → Nat → Int32} {j N K : Nat} {h : Int32} (S : Sim V W (43 + 10 * j) j N K h) : ∀ m i d, i + m ≤ 12 → wrL V j m i d = wmL W j m i d := by
  intro m
  induction m with
  | zero => intro i d _; rfl
  | succ m ih =>
    intro i d hi
    have e1 : V (43 + 10 * j + 1) i = W 135 (0 + (12 * j + i)) := S.1 1 i (by omega) (by omega) (by omega)
    have e2 : V (43 + 10 * j + 2) i = W 135 (96 + (12 * j + i)) := S.1 2 i (by omega) (by omega) (by omega)
    have e3 : V (43 + 10 * j + 3) i = W 135 (288 + (12 * j + i)) := S.1 3 i (by omega) (by omega) (by omega)
    have e4 : V (43 + 10 * j + 4) i = W 135 (192 + (12 * j + i)) := S.1 4 i (by omega) (by omega) (by omega)
    unfold wrL wmL
    rw [e1, e2, e3, e4, ih _ _ (by omega)]
theorem dnV_o {N K r q : Nat} (h : q ≠ 135) (h' : q ≠ 136) : ∀ m i W, dnV N K r m i W q = W q := by
  intro m
  induction m with
  | zero => intro i W; rfl
  | succ m ih =>
    intro i W
    show dnV N K r m (i + 1) _ q = _
    rw [ih, bbM_out h, wiM_out (by omega)]
theorem dnX_o {W : Nat → Nat → Int32} {N K r q : Nat} (h : q ≠ 135) (h' : q ≠ 136) : dnX W N K r q = W q := by
  unfold dnX
  rw [dnV_o h h', bbM_out h, wiM_out (by omega)]
theorem shL_o {N K r q : Nat} (h : q ≠ 127) (h1 : q ≠ 135) (h2 : q ≠ 136) : ∀ m i W b l, (shL N K r m i W b l).1 q = W q := by
  intro m
  induction m with
  | zero => intro i W b l; rfl
  | succ m ih =>
    intro i W b l
    have o : smO W N K r i q = W q := by unfold smO smV; rw [jv_U_other h, bbM_out h1, ieM_out (by omega), jv_U_other h]
    unfold shL
    split
    · exact ih _ _ _ _
    · split
      · rw [ih, o]
      · rw [ih, o]
theorem shX_o {W : Nat → Nat → Int32} {N K r q : Nat} (h : q ≠ 127) (h1 : q ≠ 135) (h2 : q ≠ 136) : (shX W N K r).1 q = W q := by
  unfold shX
  rw [shL_o h h1 h2, bbM_out h1, ieM_out (by omega)]
theorem rmL_row {W : Nat → Nat → Int32} {N K n r : Nat} (hn : 140 < n) : rmL W N K n r n 0 = W 133 r ∧ rmL W N K n r n 1 = W 134 r ∧ rmL W N K n r n 2 = beL (rmA W n r) r N 0 (nI 0) ∧ rmL W N K n r n 3 = nI (hdL (rmB W N n r) r N 0 0) ∧ rmL W N K n r n 4 = nI (owL (rmC W N n r) r N 0 0) ∧ rmL W N K n r n 5 = qtI (qtM (rmD W N n r) N K r).2 ∧ rmL W N K n r n 6 = beL (ieM (rmF W N K n r) N K r) r N 0 (nI 0) ∧ rmL W N K n r n 7 = nI (dnR (rmH W N K n r) N K r) ∧ rmL W N K n r n 8 = ov (shX (rmJ W N K n r) N K r).2 := by
  have a0 : rmA W n r n 0 = W 133 r := by unfold rmA; rw [jv_Unj (by omega), jv_Ueq]
  have a1 : rmA W n r n 1 = W 134 r := by unfold rmA; rw [jv_Ueq]
  have b : ∀ k, k ≠ 2 → rmB W N n r n k = rmA W n r n k := fun k hk => by unfold rmB; rw [jv_Unj hk]
  have b2 : rmB W N n r n 2 = beL (rmA W n r) r N 0 (nI 0) := by unfold rmB; rw [jv_Ueq]
  have c : ∀ k, k ≠ 3 → rmC W N n r n k = rmB W N n r n k := fun k hk => by unfold rmC; rw [jv_Unj hk]
  have c3 : rmC W N n r n 3 = nI (hdL (rmB W N n r) r N 0 0) := by unfold rmC; rw [jv_Ueq]
  have d : ∀ k, k ≠ 4 → rmD W N n r n k = rmC W N n r n k := fun k hk => by unfold rmD; rw [jv_Unj hk]
  have d4 : rmD W N n r n 4 = nI (owL (rmC W N n r) r N 0 0) := by unfold rmD; rw [jv_Ueq]
  have f : ∀ k, k ≠ 5 → rmF W N K n r n k = rmD W N n r n k := fun k hk => by unfold rmF qtM; rw [jv_Unj hk, bbM_out (by omega), qtL_o (by omega), kpM_out (by omega)]
  have f5 : rmF W N K n r n 5 = qtI (qtM (rmD W N n r) N K r).2 := by unfold rmF; rw [jv_Ueq]
  have h : ∀ k, k ≠ 6 → rmH W N K n r n k = rmF W N K n r n k := fun k hk => by unfold rmH; rw [jv_Unj hk, bbM_out (by omega), ieM_out (by omega)]
  have h6 : rmH W N K n r n 6 = beL (ieM (rmF W N K n r) N K r) r N 0 (nI 0) := by unfold rmH; rw [jv_Ueq]
  have j : ∀ k, k ≠ 7 → rmJ W N K n r n k = rmH W N K n r n k := fun k hk => by unfold rmJ; rw [jv_Unj hk, dnX_o (by omega) (by omega)]
  have j7 : rmJ W N K n r n 7 = nI (dnR (rmH W N K n r) N K r) := by unfold rmJ; rw [jv_Ueq]
  have l : ∀ k, k ≠ 8 → rmL W N K n r n k = rmJ W N K n r n k := fun k hk => by unfold rmL; rw [jv_Unj hk, shX_o (by omega) (by omega) (by omega)]
  have l8 : rmL W N K n r n 8 = ov (shX (rmJ W N K n r) N K r).2 := by unfold rmL; rw [jv_Ueq]
  refine ⟨?_, ?_, ?_, ?_, ?_, ?_, ?_, ?_, l8⟩
  · rw [l 0 (by omega), j 0 (by omega), h 0 (by omega), f 0 (by omega), d 0 (by omega), c 0 (by omega), b 0 (by omega), a0]
  · rw [l 1 (by omega), j 1 (by omega), h 1 (by omega), f 1 (by omega), d 1 (by omega), c 1 (by omega), b 1 (by omega), a1]
  · rw [l 2 (by omega), j 2 (by omega), h 2 (by omega), f 2 (by omega), d 2 (by omega), c 2 (by omega), b2]
  · rw [l 3 (by omega), j 3 (by omega), h 3 (by omega), f 3 (by omega), d 3 (by omega), c3]
  · rw [l 4 (by omega), j 4 (by omega), h 4 (by omega), f 4 (by omega), d4]
  · rw [l 5 (by omega), j 5 (by omega), h 5 (by omega), f5]
  · rw [l 6 (by omega), j 6 (by omega), h6]
  · rw [l 7 (by omega), j7]
theorem wr_alike {V W : Nat → Nat → Int32} {N K R t j n : Nat} (H : INV V W N K R t) (ht : t ≤ 2 ^ 29) (hj : j < R) (hn : 140 < n) (d : Int64) : INV (wrX V N K j).1 (rmL W N K n j) N K R t ∧ wrD V N K j d = wmL (rmL W N K n j) j N 0 (mxL (rmL W N K n j) n 9 0 d) := by
  have hN := H.N12
  have HA : INV V (rmA W n j) N K R t := H.row (fun q h1 h2 => by unfold rmA; rw [jv_U_other (by omega), jv_U_other (by omega), NV_o (by omega)])
  have HB : INV V (rmB W N n j) N K R t := HA.row (fun q h1 h2 => by unfold rmB; rw [jv_U_other (by omega)])
  have HC : INV V (rmC W N n j) N K R t := HB.row (fun q h1 h2 => by unfold rmC; rw [jv_U_other (by omega)])
  have HD : INV V (rmD W N n j) N K R t := HC.row (fun q h1 h2 => by unfold rmD; rw [jv_U_other (by omega)])
  obtain ⟨Q1, Q2⟩ := HD.triQ ht hj
  have HF : INV (wr1 V N j) (rmF W N K n j) N K R t := Q1.row (fun q h1 h2 => by unfold rmF; rw [jv_U_other (by omega)])
  obtain ⟨E1, E2, -⟩ := HF.tri ht hj
  have HH : INV (wr2 V N j) (rmH W N K n j) N K R t := E1.row (fun q h1 h2 => by unfold rmH; rw [jv_U_other (by omega)])
  obtain ⟨D1, D2⟩ := HH.bestD ht hj
  have HJ : INV (wr3 V N j) (rmJ W N K n j) N K R t := D1.row (fun q h1 h2 => by unfold rmJ; rw [jv_U_other (by omega)])
  obtain ⟨S1, S2⟩ := HJ.bestS ht hj
  have HL : INV (wrX V N K j).1 (rmL W N K n j) N K R t := INV.row S1 (fun q h1 h2 => by unfold rmL; rw [jv_U_other (by omega)])
  refine ⟨HL, ?_⟩
  obtain ⟨r0, r1, r2, r3, r4, r5, r6, r7, r8⟩ := rmL_row (W := W) (N := N) (K := K) (r := j) hn
  have e0 : V (43 + 10 * j) 0 = W 133 j := H.2.2.2.2.2.2.1 j hj
  have e1 : V (43 + 10 * j) 1 = W 134 j := (H.sim hj).2.2.2.2
  have e2 : hbL V (43 + 10 * j) N 0 (nI 0) = beL (rmA W n j) j N 0 (nI 0) := (HA.sim hj).heads HA.hd N 0 (nI 0) (by omega)
  have e3 : reachedL V j N 0 0 = hdL (rmB W N n j) j N 0 0 := (HB.sim hj).heard N 0 0 (by omega)
  have e4 : underWayL V j N 0 0 = owL (rmC W N n j) j N 0 0 := (HC.sim hj).under N 0 0 (by omega)
  have e6 : hbL (triV (wr1 V N j) N j) 33 N 0 (nI 0) = beL (ieM (rmF W N K n j) N K j) j N 0 (nI 0) := E2
  have e7 : wrB V N j = dnR (rmH W N K n j) N K j := D2
  have e8 : (wrX V N K j).2 = (shX (rmJ W N K n j) N K j).2 := S2
  have key : mx (mx (mx (mx (mx (mx (mx (mx (mx d (V (43 + 10 * j) 0).toInt64) (V (43 + 10 * j) 1).toInt64) (hbL V (43 + 10 * j) N 0 (nI 0)).toInt64) (nI (reachedL V j N 0 0)).toInt64) (nI (underWayL V j N 0 0)).toInt64) (qtR V N j).toInt64) (hbL (triV (wr1 V N j) N j) 33 N 0 (nI 0)).toInt64) (nI (wrB V N j)).toInt64) (ov (wrX V N K j).2).toInt64 = mxL (rmL W N K n j) n 9 0 d := by
    show _ = mx (mx (mx (mx (mx (mx (mx (mx (mx d (rmL W N K n j n 0).toInt64) (rmL W N K n j n 1).toInt64) (rmL W N K n j n 2).toInt64) (rmL W N K n j n 3).toInt64) (rmL W N K n j n 4).toInt64) (rmL W N K n j n 5).toInt64) (rmL W N K n j n 6).toInt64) (rmL W N K n j n 7).toInt64) (rmL W N K n j n 8).toInt64
    rw [r0, r1, r2, r3, r4, r5, r6, r7, r8, e0, e1, e2, e3, e4, Q2, e6, e7, e8]
  have w := wrL_alike (HL.sim hj) N 0 (mxL (rmL W N K n j) n 9 0 d) (by omega)
  unfold wrD
  rw [key]
  exact w
theorem dgR_alike {N K R t : Nat} (ht : t ≤ 2 ^ 29) : ∀ m i n V W d, i + m ≤ R → 140 < n → INV V W N K R t → INV (dgR N K m i V d).1 (dmR N K m i n W d).1 N K R t ∧ (dgR N K m i V d).2 = (dmR N K m i n W d).2 := by
  intro m
  induction m with
  | zero => intro i n V W d _ _ H; exact ⟨H, rfl⟩
  | succ m ih =>
    intro i n V W d hi hn H
    obtain ⟨a, b⟩ := wr_alike H ht (show i < R by omega) hn d
    unfold dgR dmR
    rw [b]
    exact ih _ _ _ _ _ (by omega) (by omega) a
theorem INV.digest {V W : Nat → Nat → Int32} {N K R t n : Nat} (H : INV V W N K R t) (ht : t ≤ 2 ^ 29) (hn : 140 < n) : INV (dgX V N K R).1 (daX W N K R n).1 N K R t ∧ (dgX V N K R).2 = (daX W N K R n).2 := by
  have hN := H.N12
  have h1 : INV V (da1 W N K R n) N K R t := (H.to (EqV.refl V) EqW_t0).row (fun q h1 h2 => by unfold da1; rw [jv_U_other (by omega), jv_U_other (by omega), jv_U_other (by omega), jv_U_other (by omega), NV_o (by omega)])
  have e1 := cen_alike hN N 0 _ _ none (nI 0) (by omega) h1.wp
  have h2 : INV (dgc V N) (da2 W N K R n) N K R t := h1.to (fun q a b c => dgc_out (by omega)) (EqW_of (fun q a b => by unfold da2; rw [jv_U_other (by omega), mdL_out (by omega)]))
  have e2 := par_alike hN N 0 _ _ 0 (by omega) h2.wp
  have h3 : INV (dgp V N) (da3 W N K R n) N K R t := h2.to (fun q a b c => parL_out (by omega) _ _ _ _) (EqW_of (fun q a b => by unfold da3; rw [jv_U_other (by omega), pnL_out (by omega)]))
  have r1 : ∀ k, da1 W N K R n n k = if k = 3 then nI R else if k = 2 then nI K else if k = 1 then W 135 864 else if k = 0 then nI N else z0 k := by
    intro k
    unfold da1
    by_cases k3 : k = 3
    · subst k3; rw [if_pos rfl, jv_Ueq]
    · rw [if_neg k3, jv_Unj k3]
      by_cases k2 : k = 2
      · subst k2; rw [if_pos rfl, jv_Ueq]
      · rw [if_neg k2, jv_Unj k2]
        by_cases k1 : k = 1
        · subst k1; rw [if_pos rfl, jv_Ueq]
        · rw [if_neg k1, jv_Unj k1]
          by_cases k0 : k = 0
          · subst k0; rw [if_pos rfl, jv_Ueq]
          · rw [if_neg k0, jv_Unj k0]
            unfold jv_NV
            rw [if_pos rfl]
  have r2 : ∀ k, k ≠ 4 → da2 W N K R n n k = da1 W N K R n n k := fun k hk => by unfold da2; rw [jv_Unj hk, mdL_out (by omega)]
  have r24 : da2 W N K R n n 4 = oz (mdL N K N 0 (da1 W N K R n) none (nI 0)).2 := by unfold da2; rw [jv_Ueq]
  have r3 : ∀ k, k ≠ 5 → da3 W N K R n n k = da2 W N K R n n k := fun k hk => by unfold da3; rw [jv_Unj hk, pnL_out (by omega)]
  have r35 : da3 W N K R n n 5 = nI (pnL N K N 0 (da2 W N K R n) 0).2 := by unfold da3; rw [jv_Ueq]
  have q0 : da3 W N K R n n 0 = nI N := by rw [r3 0 (by omega), r2 0 (by omega), r1, if_neg (by omega), if_neg (by omega), if_neg (by omega), if_pos rfl]
  have q1 : da3 W N K R n n 1 = W 135 864 := by rw [r3 1 (by omega), r2 1 (by omega), r1, if_neg (by omega), if_neg (by omega), if_pos rfl]
  have q2 : da3 W N K R n n 2 = nI K := by rw [r3 2 (by omega), r2 2 (by omega), r1, if_neg (by omega), if_pos rfl]
  have q3 : da3 W N K R n n 3 = nI R := by rw [r3 3 (by omega), r2 3 (by omega), r1, if_pos rfl]
  have q4 : da3 W N K R n n 4 = oz (mdL N K N 0 (da1 W N K R n) none (nI 0)).2 := by rw [r3 4 (by omega), r24]
  have e0 : dg0 V N K R = mxL (da3 W N K R n) n 6 0 2287 := by
    show _ = mx (mx (mx (mx (mx (mx 2287 (da3 W N K R n n 0).toInt64) (da3 W N K R n n 1).toInt64) (da3 W N K R n n 2).toInt64) (da3 W N K R n n 3).toInt64) (da3 W N K R n n 4).toInt64) (da3 W N K R n n 5).toInt64
    unfold dg0
    rw [q0, q1, q2, q3, q4, r35, e1, e2, H.2.1, H.2.2.2.1]
  obtain ⟨f1, f2⟩ := dgF_alike N 0 (n + 1) _ _ (dg0 V N K R) (by omega) (by omega) h3
  have g1 : INV (dgG V N K R).1 (daF W N K R n).1 N K R t := by unfold dgG daF; rw [← e0]; exact f1
  have g2 : (dgG V N K R).2 = (daF W N K R n).2 := by unfold dgG daF; rw [← e0]; exact f2
  have s := dgS_alike g1.2.2.2.2.1.st (N - 1) 0 (dgG V N K R).2 (by omega)
  have l := dgL_alike (fun l hl => (g1.2.2.2.2.1.run g1.K4 hl).1) K 0 (dgS (dgG V N K R).1 (N - 1) 0 (dgG V N K R).2) (by omega)
  have fin := dgR_alike ht R 0 (n + 1 + N) _ _ (dgL (dgG V N K R).1 K 0 (dgS (dgG V N K R).1 (N - 1) 0 (dgG V N K R).2)) (by omega) (by omega) g1
  have key : dgL (dgG V N K R).1 K 0 (dgS (dgG V N K R).1 (N - 1) 0 (dgG V N K R).2) = slL (daF W N K R n).1 K 0 (ssL (daF W N K R n).1 (N - 1) 0 (daF W N K R n).2) := by rw [l, s, g2]
  unfold dgX daX
  rw [← key]
  exact fin

theorem jv_U_again {V : Nat → Nat → Int32} {p i : Nat} {x y : Int32} : jv_U (jv_U V p i x) p i y = jv_U V p i y := by
  funext q c
  unfold jv_U
  by_cases e : q = p
  · subst e
    by_cases e2 : c = i
    · subst e2; simp only [if_true]
    · simp only [if_true, if_neg e2]
  · rw [if_neg e, if_neg e, if_neg e]
theorem INV.tz {V W : Nat → Nat → Int32} {N K R t : Nat} (H : INV V W N K R t) : INV V (t0 W) N K R t := H.to (EqV.refl V) EqW_t0
theorem rstV_at {V : Nat → Nat → Int32} {f : Nat} (hf : f < 12) : rstV V 12 2 f = nI 10 ∧ rstV V 12 3 f = nI 2 ∧ rstV V 12 4 f = nI 3 ∧ rstV V 12 5 f = nI 1 := by
  unfold rstV
  refine ⟨?_, ?_, ?_, ?_⟩
  · rw [if_pos hf, if_pos rfl]
  · rw [if_pos hf, if_neg (by omega), if_pos rfl]
  · rw [if_pos hf, if_neg (by omega), if_neg (by omega), if_pos rfl]
  · rw [if_pos hf, if_neg (by omega), if_neg (by omega), if_neg (by omega), if_pos rfl]
theorem anI_at {V : Nat → Nat → Int32} {f : Nat} (hf : f < 12) : anI V 12 124 f = nI 10 ∧ anI V 12 125 f = nI 2 ∧ anI V 12 126 f = nI 3 ∧ anI V 12 127 f = nI 1 := by
  unfold anI
  refine ⟨?_, ?_, ?_, ?_⟩
  · rw [if_pos hf, if_pos rfl]
  · rw [if_pos hf, if_neg (by omega), if_pos rfl]
  · rw [if_pos hf, if_neg (by omega), if_neg (by omega), if_pos rfl]
  · rw [if_pos hf, if_neg (by omega), if_neg (by omega), if_neg (by omega), if_pos rfl]
theorem anI_o {V : Nat → Nat → Int32} {i q : Nat} (h : q < 124 ∨ 127 < q) : anI V i q = V q := by
  funext c
  unfold anI
  rw [if_neg (by omega : ¬ q = 124), if_neg (by omega : ¬ q = 125), if_neg (by omega : ¬ q = 126), if_neg (by omega : ¬ q = 127), ite_self]
theorem anM_o {V : Nat → Nat → Int32} {m q : Nat} (h : q < 123 ∨ 127 < q) : anM V m q = V q := by
  unfold anM
  rw [anI_o (by omega), jv_U_other (by omega), jv_U_other (by omega), jv_U_other (by omega)]
theorem nI1_1 : nI 1 = 1 := by decide +kernel
theorem INV.built {V W : Nat → Nat → Int32} {t m : Nat} (h5 : V 0 5 = nI t) (h8 : W 135 864 = nI t) (hm2 : 2 ≤ m) (hm : m ≤ 12) : INV (jv_U (layV (rstV (jv_U (jv_U V 1 0 (nI m)) 1 1 (nI 0)) 12) m 0) 0 4 (nI 0)) (anM W m) m 0 0 t := by
  have hT : TW (rstV (jv_U (jv_U V 1 0 (nI m)) 1 1 (nI 0)) 12) (anM W m) 0 := by
    refine ⟨fun k hk => by omega, fun f hf => ?_, fun f hf => ?_, fun f hf => ?_, fun f hf => ?_, fun f hf => ?_⟩
    · rw [mg_4, mg_5, mg_126, mg_127]
      unfold anM
      rw [(rstV_at hf).2.2.1, (rstV_at hf).2.2.2, (anI_at hf).2.2.1, (anI_at hf).2.2.2]
      exact ⟨rfl, rfl⟩
    · unfold anM
      rw [(rstV_at hf).1, (anI_at hf).1]
      exact ⟨rfl, 10, rfl, by omega⟩
    · unfold anM
      rw [(rstV_at hf).2.1, (anI_at hf).2.1]
      exact ⟨rfl, 2, rfl, by omega⟩
    · unfold anM
      exact ⟨3, (anI_at hf).2.2.1, by omega, by omega⟩
    · unfold anM
      exact Or.inr ((anI_at hf).2.2.2.trans nI1_1)
  have hP := pipes2 hT.1 hT.2.1 (by omega) hm
  refine ⟨⟨?_, ?_, ?_, hm2, hm, by omega, by omega⟩, ?_, ⟨?_, ?_, ?_, hm2, hm, by omega, by omega, fun k hk => by omega⟩, ?_, ?_, ?_, fun j hj => by omega, fun j hj => by omega⟩
  · rw [jv_Une (by omega), layV_out (by omega), rstV_out (by omega), jv_Unj (by omega), jv_Ueq]
  · rw [jv_Une (by omega), layV_out (by omega), rstV_out (by omega), jv_Ueq]
  · rw [jv_Ueq]
  · rw [jv_Unj (by omega), layV_out (by omega), rstV_out (by omega), jv_Une (by omega), jv_Une (by omega)]; exact h5
  · unfold anM; rw [anI_o (by omega), jv_Unj (by omega), jv_Unj (by omega), jv_Ueq]
  · unfold anM; rw [anI_o (by omega), jv_Unj (by omega), jv_Ueq]
  · unfold anM; rw [anI_o (by omega), jv_Ueq]
  · rw [anM_o (by omega)]; exact h8
  · exact hT.to (by omega) (fun q h => by rw [jv_U_other (by omega), layV_out (by omega)]) (fun q h1 h2 => rfl)
  · intro a b ha hb
    rw [jv_Une (by omega)]; exact hP a b ha hb
theorem TW.stay {V W : Nat → Nat → Int32} {K f a : Nat} {x : Int32} (H : TW V W K) (hK : K ≤ 4) (hx : x = nI a) (ha : a ≤ 9) : TW (jv_U V 3 f x) (jv_U W 125 f x) K := by
  obtain ⟨h1, h2, h3, h4, h5, h6⟩ := H
  refine ⟨h1.congr hK (fun q g1 g2 => ?_) (fun q g1 g2 => ?_), h2.congr ?_ ?_ ?_ ?_, ?_, fun c hc => ?_, ?_, ?_⟩
  · rw [mg_lo (by omega), mg_lo (by omega), jv_U_other (by omega)]
  · rw [mg_hi (by omega), mg_hi (by omega), jv_U_other (by omega)]
  · rw [mg_lo (by omega), mg_lo (by omega), jv_U_other (by omega)]
  · rw [mg_lo (by omega), mg_lo (by omega), jv_U_other (by omega)]
  · rw [mg_hi (by omega), mg_hi (by omega), jv_U_other (by omega)]
  · rw [mg_hi (by omega), mg_hi (by omega), jv_U_other (by omega)]
  · rw [jv_U_other (by omega), jv_U_other (by omega)]; exact h3
  · by_cases e : c = f
    · subst e; rw [jv_Ueq, jv_Ueq]; exact ⟨rfl, a, hx, ha⟩
    · rw [jv_Unj e, jv_Unj e]; exact h4 c hc
  · rw [jv_U_other (by omega)]; exact h5
  · rw [jv_U_other (by omega)]; exact h6
theorem TW.heads {V W : Nat → Nat → Int32} {K f a : Nat} {x : Int32} (H : TW V W K) (hK : K ≤ 4) (hx : x = nI a) (ha : a ≤ 99) : TW (jv_U V 2 f x) (jv_U W 124 f x) K := by
  obtain ⟨h1, h2, h3, h4, h5, h6⟩ := H
  refine ⟨h1.congr hK (fun q g1 g2 => ?_) (fun q g1 g2 => ?_), h2.congr ?_ ?_ ?_ ?_, fun c hc => ?_, ?_, ?_, ?_⟩
  · rw [mg_lo (by omega), mg_lo (by omega), jv_U_other (by omega)]
  · rw [mg_hi (by omega), mg_hi (by omega), jv_U_other (by omega)]
  · rw [mg_lo (by omega), mg_lo (by omega), jv_U_other (by omega)]
  · rw [mg_lo (by omega), mg_lo (by omega), jv_U_other (by omega)]
  · rw [mg_hi (by omega), mg_hi (by omega), jv_U_other (by omega)]
  · rw [mg_hi (by omega), mg_hi (by omega), jv_U_other (by omega)]
  · by_cases e : c = f
    · subst e; rw [jv_Ueq, jv_Ueq]; exact ⟨rfl, a, hx, ha⟩
    · rw [jv_Unj e, jv_Unj e]; exact h3 c hc
  · rw [jv_U_other (by omega), jv_U_other (by omega)]; exact h4
  · rw [jv_U_other (by omega)]; exact h5
  · rw [jv_U_other (by omega)]; exact h6
theorem TW.stairs {V W : Nat → Nat → Int32} {K f a : Nat} {x : Int32} (H : TW V W K) (hK : K ≤ 4) (hx : x = nI a) (h1a : 1 ≤ a) (ha : a ≤ 9) : TW (jv_U V 4 f x) (jv_U W 126 f x) K := by
  have st := H.st
  obtain ⟨h1, h2, h3, h4, h5, h6⟩ := H
  refine ⟨h1.congr hK (fun q g1 g2 => ?_) (fun q g1 g2 => ?_), fun c hc => ?_, ?_, ?_, fun c hc => ?_, ?_⟩
  · rw [mg_lo (by omega), mg_lo (by omega), jv_U_other (by omega)]
  · rw [mg_hi (by omega), mg_hi (by omega), jv_U_other (by omega)]
  · rw [mg_4, mg_5, mg_126, mg_127, jv_U_other (by omega : 5 ≠ 4), jv_U_other (by omega : 127 ≠ 126)]
    obtain ⟨s1, s2⟩ := st c hc
    refine ⟨?_, s2⟩
    by_cases e : c = f
    · subst e; rw [jv_Ueq, jv_Ueq]
    · rw [jv_Unj e, jv_Unj e]; exact s1
  · rw [jv_U_other (by omega), jv_U_other (by omega)]; exact h3
  · rw [jv_U_other (by omega), jv_U_other (by omega)]; exact h4
  · by_cases e : c = f
    · subst e; rw [jv_Ueq]; exact ⟨a, hx, h1a, ha⟩
    · rw [jv_Unj e]; exact h5 c hc
  · rw [jv_U_other (by omega)]; exact h6
theorem TW.lift {V W : Nat → Nat → Int32} {K l : Nat} {b : Int32} (H : TW V W K) (hK : K ≤ 4) (hl : l < K) (hb : b = 0 ∨ b = 1) : TW (jv_U V (20 + 2 * l) 0 b) (jv_U W 132 l b) K := by
  obtain ⟨h1, h2, h3, h4, h5, h6⟩ := H
  refine ⟨fun k hk => ?_, h2.congr ?_ ?_ ?_ ?_, ?_, ?_, ?_, ?_⟩
  · obtain ⟨lo, hi, ev, wt, e1, e2, e3, e4, c1, c2, c3, c4, c5, c6, c7, c8, c9, c10⟩ := h1 k hk
    rw [mg_hi (by omega)] at e1 e2 e3 e4 c10
    rw [mg_lo (by omega)] at c7 c9
    rw [mg_L (show k < 4 by omega), mg_132] at c8
    refine ⟨lo, hi, ev, wt, ?_, ?_, ?_, ?_, c1, c2, c3, c4, c5, c6, fun c hc => ?_, ?_, ?_, ?_⟩
    · rw [mg_hi (by omega), jv_U_other (by omega)]; exact e1
    · rw [mg_hi (by omega), jv_U_other (by omega)]; exact e2
    · rw [mg_hi (by omega), jv_U_other (by omega)]; exact e3
    · rw [mg_hi (by omega), jv_U_other (by omega)]; exact e4
    · rw [mg_lo (by omega), jv_U_other (by omega)]; exact c7 c hc
    · rw [mg_L (show k < 4 by omega), mg_132]
      by_cases e : k = l
      · subst e; rw [jv_Ueq, jv_Ueq]
      · rw [jv_Une (by omega), jv_Unj e]; exact c8
    · rw [mg_lo (by omega)]
      by_cases e : k = l
      · subst e; rw [jv_Unj (by omega)]; exact c9
      · rw [jv_Une (by omega)]; exact c9
    · rw [mg_hi (by omega)]
      by_cases e : k = l
      · subst e; rw [jv_Ueq]; exact hb
      · rw [jv_Unj e]; exact c10
  · rw [mg_lo (by omega), mg_lo (by omega), jv_U_other (by omega)]
  · rw [mg_lo (by omega), mg_lo (by omega), jv_U_other (by omega)]
  · rw [mg_hi (by omega), mg_hi (by omega), jv_U_other (by omega)]
  · rw [mg_hi (by omega), mg_hi (by omega), jv_U_other (by omega)]
  · rw [jv_U_other (by omega), jv_U_other (by omega)]; exact h3
  · rw [jv_U_other (by omega), jv_U_other (by omega)]; exact h4
  · rw [jv_U_other (by omega)]; exact h5
  · rw [jv_U_other (by omega)]; exact h6
theorem INV.stay {V W : Nat → Nat → Int32} {N K R t f a : Nat} {x : Int32} (H : INV V W N K R t) (hx : x = nI a) (ha : a ≤ 9) : INV (jv_U V 3 f x) (jv_U W 125 f x) N K R t := by
  obtain ⟨hC, h5, hM, h8, hT, hP, hO, hS⟩ := H
  have hN := hC.2.2.2.2.1
  have hK := hC.2.2.2.2.2.1
  have hR := hC.2.2.2.2.2.2
  have hT' : TW (jv_U V 3 f x) (jv_U W 125 f x) K := hT.stay hK hx ha
  have hP' : PW (jv_U V 3 f x) (jv_U W 125 f x) N K := fun p q hp hq => by
    rw [jv_U_other (by omega), hoM_congr (V := W) (fun q h1 h2 => jv_U_other (by omega))]; exact hP p q hp hq
  refine ⟨hC.o (jv_U_other (by omega)) (jv_U_other (by omega)), by rw [jv_Une (by omega)]; exact h5, hM.o (jv_U_other (by omega)) (jv_U_other (by omega)), by rw [jv_Une (by omega)]; exact h8, hT', hP', fun j hj => by rw [jv_U_other (by omega), jv_U_other (by omega)]; exact hO j hj, ?_⟩
  exact hS.to hR (fun q h1 h2 => jv_U_other (by omega)) (fun c hc => (hT'.2.2.2.1 c hc).1) hP' (fun c _ => jv_Une (by omega)) (fun j _ => jv_Une (by omega))
theorem INV.heads {V W : Nat → Nat → Int32} {N K R t f a : Nat} {x : Int32} (H : INV V W N K R t) (hx : x = nI a) (ha : a ≤ 99) : INV (jv_U V 2 f x) (jv_U W 124 f x) N K R t := by
  obtain ⟨hC, h5, hM, h8, hT, hP, hO, hS⟩ := H
  have hN := hC.2.2.2.2.1
  have hK := hC.2.2.2.2.2.1
  have hR := hC.2.2.2.2.2.2
  have hT' : TW (jv_U V 2 f x) (jv_U W 124 f x) K := hT.heads hK hx ha
  have hP' : PW (jv_U V 2 f x) (jv_U W 124 f x) N K := fun p q hp hq => by
    rw [jv_U_other (by omega), hoM_congr (V := W) (fun q h1 h2 => jv_U_other (by omega))]; exact hP p q hp hq
  refine ⟨hC.o (jv_U_other (by omega)) (jv_U_other (by omega)), by rw [jv_Une (by omega)]; exact h5, hM.o (jv_U_other (by omega)) (jv_U_other (by omega)), by rw [jv_Une (by omega)]; exact h8, hT', hP', fun j hj => by rw [jv_U_other (by omega), jv_U_other (by omega)]; exact hO j hj, ?_⟩
  exact hS.to hR (fun q h1 h2 => jv_U_other (by omega)) (fun c hc => (hT'.2.2.2.1 c hc).1) hP' (fun c _ => jv_Une (by omega)) (fun j _ => jv_Une (by omega))
theorem INV.stairs {V W : Nat → Nat → Int32} {N K R t f a : Nat} {x : Int32} (H : INV V W N K R t) (hx : x = nI a) (h1a : 1 ≤ a) (ha : a ≤ 9) : INV (layV (jv_U V 4 f x) N K) (jv_U W 126 f x) N K R t :=
  H.lay (H.1.o (jv_U_other (by omega)) (jv_U_other (by omega))) (H.2.2.1.o (jv_U_other (by omega)) (jv_U_other (by omega))) (H.2.2.2.2.1.stairs H.K4 hx h1a ha) (jv_U_other (by omega)) (fun q h1 h2 => jv_U_other (by omega)) (fun q h1 h2 => jv_U_other (by omega))
theorem INV.turnS {V W : Nat → Nat → Int32} {N K R t f : Nat} (H : INV V W N K R t) (hf : f < N) : nb (V 5 f) = nb (W 127 f) ∧ INV (layV (jv_U V 5 f (nb (V 5 f))) N K) (jv_U W 127 f (nb (W 127 f))) N K R t := by
  have hN := H.N12
  have e := (H.2.2.2.2.1.st f (by omega)).2
  rw [e]
  exact ⟨rfl, H.shut (nb01 _)⟩
theorem INV.lrun {V W : Nat → Nat → Int32} {N K R t l : Nat} {b : Int32} (H : INV V W N K R t) (hl : l < K) (hb : b = 0 ∨ b = 1) : INV (letL V N K l b) (jv_U W 132 l b) N K R t := by
  have hK := H.K4
  exact H.lay (H.1.o (jv_U_other (by omega)) (jv_U_other (by omega))) (H.2.2.1.o (jv_U_other (by omega)) (jv_U_other (by omega))) (H.2.2.2.2.1.lift H.K4 hl hb) (jv_U_other (by omega)) (fun q h1 h2 => jv_U_other (by omega)) (fun q h1 h2 => jv_U_other (by omega))
theorem INV.turnL {V W : Nat → Nat → Int32} {N K R t l : Nat} (H : INV V W N K R t) (hl : l < K) : nb (V (20 + 2 * l) 0) = nb (W 132 l) ∧ INV (layV (jv_U V (20 + 2 * l) 0 (nb (V (20 + 2 * l) 0))) N K) (jv_U W 132 l (nb (W 132 l))) N K R t := by
  have e := (H.2.2.2.2.1.run H.K4 hl).1
  rw [e]
  exact ⟨rfl, H.lrun hl (nb01 _)⟩
theorem jv_fill_o {V : Nat → Nat → Int32} {p n q : Nat} {f : Nat → Int32} (h : q ≠ p) : jv_fill V p n f q = V q := by
  funext c
  unfold jv_fill
  rw [if_neg (fun d => h d.1)]
theorem putV_o {V : Nat → Nat → Int32} {K lo hi ev q : Nat} {w : Int32} (h1 : q ≠ 1) (h2 : q ≠ 20 + 2 * K) (h3 : q ≠ 20 + 2 * K + 1) : putV V K lo hi ev w q = V q := by
  unfold putV
  rw [jv_U_other h1, jv_fill_o h3, jv_U_other h2, jv_U_other h2]
theorem adM_o {V : Nat → Nat → Int32} {K lo hi ev q : Nat} {w : Int32} (h : q < 123 ∨ (123 < q ∧ q < 128) ∨ 132 < q) : adM V K lo hi ev w q = V q := by
  unfold adM
  rw [jv_U_other (by omega), jv_U_other (by omega), jv_U_other (by omega), jv_U_other (by omega), jv_U_other (by omega), jv_U_other (by omega)]
theorem adM_k {V : Nat → Nat → Int32} {K lo hi ev q k : Nat} {w : Int32} (h : 128 ≤ q) (hk : k ≠ K) : adM V K lo hi ev w q k = V q k := by
  unfold adM
  rw [jv_U_other (by omega), jv_Unj hk, jv_Unj hk, jv_Unj hk, jv_Unj hk, jv_Unj hk]
theorem adM_K {V : Nat → Nat → Int32} {K lo hi ev : Nat} {w : Int32} : adM V K lo hi ev w 128 K = nI lo ∧ adM V K lo hi ev w 129 K = nI hi ∧ adM V K lo hi ev w 130 K = nI ev ∧ adM V K lo hi ev w 131 K = w ∧ adM V K lo hi ev w 132 K = nI 1 := by
  unfold adM
  refine ⟨?_, ?_, ?_, ?_, ?_⟩
  · rw [jv_U_other (by omega), jv_U_other (by omega), jv_U_other (by omega), jv_U_other (by omega), jv_U_other (by omega), jv_Ueq]
  · rw [jv_U_other (by omega), jv_U_other (by omega), jv_U_other (by omega), jv_U_other (by omega), jv_Ueq]
  · rw [jv_U_other (by omega), jv_U_other (by omega), jv_U_other (by omega), jv_Ueq]
  · rw [jv_U_other (by omega), jv_U_other (by omega), jv_Ueq]
  · rw [jv_U_other (by omega), jv_Ueq]
theorem INV.addL {V W : Nat → Nat → Int32} {N K R t lo hi ev wt : Nat} {w : Int32} (H : INV V W N K R t) (hhi : hi < N) (hl : lo < hi) (he : 1 ≤ ev) (hev : ev ≤ hi - lo) (hw : w = nI wt) (h1w : 1 ≤ wt) (h9w : wt ≤ 9) (hK3 : K < 4) : INV (layV (putV V K lo hi ev w) N (K + 1)) (adM W K lo hi ev w) N (K + 1) R t := by
  have hN := H.N12
  obtain ⟨m1, m2, m3, m4, m5, m6, m7, m8⟩ := H.2.2.1
  obtain ⟨c1, c2, c3, c4, c5, c6, c7⟩ := H.1
  obtain ⟨a1, a2, a3, a4, a5⟩ := adM_K (V := W) (K := K) (lo := lo) (hi := hi) (ev := ev) (w := w)
  refine H.lay (V1 := putV V K lo hi ev w) ⟨?_, putV_11, ?_, c4, c5, by omega, c7⟩ ⟨?_, ?_, ?_, m4, m5, by omega, m7, fun k hk => ?_⟩ ?_ (putV_o (by omega) (by omega) (by omega)) (fun q h1 h2 => putV_o (by omega) (by omega) (by omega)) (fun q h1 h2 => adM_o (by omega))
  · unfold putV
    rw [jv_Unj (by omega), jv_fill_o (by omega), jv_U_other (by omega), jv_U_other (by omega)]; exact c1
  · rw [putV_o (by omega) (by omega) (by omega)]; exact c3
  · unfold adM
    rw [jv_Unj (by omega), jv_U_other (by omega), jv_U_other (by omega), jv_U_other (by omega), jv_U_other (by omega), jv_U_other (by omega)]; exact m1
  · unfold adM
    rw [jv_Ueq]
  · unfold adM
    rw [jv_Unj (by omega), jv_U_other (by omega), jv_U_other (by omega), jv_U_other (by omega), jv_U_other (by omega), jv_U_other (by omega)]; exact m3
  · by_cases e : k = K
    · subst e; rw [a3]; exact nI_ne0 (by omega) (by omega)
    · rw [adM_k (by omega) e]; exact m8 k (by omega)
  · obtain ⟨h1, h2, h3, h4, h5, h6⟩ := H.2.2.2.2.1
    refine ⟨fun k hk => ?_, h2.congr ?_ ?_ ?_ ?_, ?_, ?_, ?_, ?_⟩
    · by_cases e : k = K
      · subst e
        refine ⟨lo, hi, ev, wt, ?_, ?_, ?_, ?_, hl, by omega, he, hev, h1w, h9w, fun c hc => ?_, ?_, ?_, ?_⟩
        · rw [mg_hi (by omega)]; exact a1
        · rw [mg_hi (by omega)]; exact a2
        · rw [mg_hi (by omega)]; exact a3
        · rw [mg_hi (by omega), a4]; exact hw
        · rw [mg_lo (by omega)]
          unfold putV
          rw [jv_U_other (by omega)]
          unfold jv_fill
          rw [if_pos ⟨rfl, hc⟩]
        · rw [mg_L hK3, mg_132, a5]
          unfold putV
          rw [jv_U_other (by omega), jv_fill_o (by omega), jv_Unj (by omega), jv_Ueq]
        · rw [mg_lo (by omega)]
          unfold putV
          rw [jv_U_other (by omega), jv_fill_o (by omega), jv_Ueq]; exact hw
        · rw [mg_hi (by omega), a5]; exact Or.inr nI1_1
      · obtain ⟨lo', hi', ev', wt', e1, e2, e3, e4, d1, d2, d3, d4, d5, d6, d7, d8, d9, d10⟩ := h1 k (by omega)
        rw [mg_hi (by omega)] at e1 e2 e3 e4 d10
        rw [mg_lo (by omega)] at d7 d9
        rw [mg_L (show k < 4 by omega), mg_132] at d8
        refine ⟨lo', hi', ev', wt', ?_, ?_, ?_, ?_, d1, d2, d3, d4, d5, d6, fun c hc => ?_, ?_, ?_, ?_⟩
        · rw [mg_hi (by omega), adM_k (by omega) e]; exact e1
        · rw [mg_hi (by omega), adM_k (by omega) e]; exact e2
        · rw [mg_hi (by omega), adM_k (by omega) e]; exact e3
        · rw [mg_hi (by omega), adM_k (by omega) e]; exact e4
        · rw [mg_lo (by omega), putV_o (by omega) (by omega) (by omega)]; exact d7 c hc
        · rw [mg_L (show k < 4 by omega), mg_132, putV_o (by omega) (by omega) (by omega), adM_k (by omega) e]; exact d8
        · rw [mg_lo (by omega), putV_o (by omega) (by omega) (by omega)]; exact d9
        · rw [mg_hi (by omega), adM_k (by omega) e]; exact d10
    · rw [mg_lo (by omega), mg_lo (by omega), putV_o (by omega) (by omega) (by omega)]
    · rw [mg_lo (by omega), mg_lo (by omega), putV_o (by omega) (by omega) (by omega)]
    · rw [mg_hi (by omega), mg_hi (by omega), adM_o (by omega)]
    · rw [mg_hi (by omega), mg_hi (by omega), adM_o (by omega)]
    · rw [putV_o (by omega) (by omega) (by omega), adM_o (by omega)]; exact h3
    · rw [putV_o (by omega) (by omega) (by omega), adM_o (by omega)]; exact h4
    · rw [adM_o (by omega)]; exact h5
    · rw [adM_o (by omega)]; exact h6
theorem INV.gain {V W : Nat → Nat → Int32} {N K R t l f c : Nat} (H : INV V W N K R t) (hl : l < K) (hf : f < N) (hc : c < N) : INV (gbV V N K l f) (gm2 W N K l f) N K R t ∧ gbR (gb1 V N K l f 29 c) (gb2 V N K l f 29 c) = gbR (wwM (t0 W) N K l f (nI 1) 137 c) (wwM (gm1 W N K l f) N K l f (nI 0) 137 c) := by
  have hN := H.N12
  have hK := H.K4
  have H0 := H.tz
  obtain ⟨e1, e2⟩ := H0.2.2.2.2.1.run hK hl
  have A : INV (letL V N K l (nI 1)) (jv_U (t0 W) 132 l (nI 1)) N K R t := H0.lrun hl nI01b
  have Y1 : Wy (gb1 V N K l f) (wwM (t0 W) N K l f (nI 1)) N f := ways_alike A.wp hN hf
  have B : INV (gb1 V N K l f) (wwM (t0 W) N K l f (nI 1)) N K R t := A.way
  have C : INV (letL (gb1 V N K l f) N K l (nI 0)) (jv_U (wwM (t0 W) N K l f (nI 1)) 132 l (nI 0)) N K R t := B.lrun hl nI01a
  have x2 : jv_U (gm1 W N K l f) 132 l (nI 0) = jv_U (wwM (t0 W) N K l f (nI 1)) 132 l (nI 0) := jv_U_again
  rw [← x2] at C
  have Y2 : Wy (gb2 V N K l f) (wwM (gm1 W N K l f) N K l f (nI 0)) N f := ways_alike C.wp hN hf
  have D : INV (gb2 V N K l f) (wwM (gm1 W N K l f) N K l f (nI 0)) N K R t := C.way
  have g : gm1 W N K l f 132 l = t0 W 132 l := by unfold gm1 wwV; rw [jv_Ueq]
  have E : INV (letL (gb2 V N K l f) N K l (V (20 + 2 * l) 0)) (jv_U (wwM (gm1 W N K l f) N K l f (nI 0)) 132 l (gm1 W N K l f 132 l)) N K R t := by
    rw [g, e1]; exact D.lrun hl e2
  refine ⟨E, ?_⟩
  rw [(Y1.2 c hc).1, (Y2.2 c hc).1]

theorem cl1_at {V : Nat → Nat → Int32} {a c : Nat} (ha : a < 96) : cl1 V a 135 c = if c % 96 = a ∧ c < 864 then (if c < 96 then nI 0 else -1) else V 135 c := by
  unfold cl1 clW
  by_cases h : c % 96 = a ∧ c < 864
  · rw [if_pos h]
    by_cases h2 : c < 96
    · rw [if_pos h2, if_neg (fun d => by have := d.2.2.1; omega)]
      have e : c = 0 + a := by omega
      rw [e, jv_Ueq]
    · rw [if_neg h2, if_pos ⟨rfl, h.1, by omega, h.2⟩]
  · rw [if_neg h, if_neg (fun d => h ⟨d.2.1, d.2.2.2⟩)]
    have e : c ≠ 0 + a := fun e => h (by omega)
    rw [jv_Unj e]
theorem cl1_o {V : Nat → Nat → Int32} {a q : Nat} (h : q ≠ 135) : cl1 V a q = V q := by
  funext c
  unfold cl1 clW
  rw [if_neg (fun d => h d.1), jv_Une h]
theorem clL_o {r q : Nat} (h : q ≠ 135) : ∀ m i V, clL r m i V q = V q := by
  intro m
  induction m with
  | zero => intro i V; rfl
  | succ m ih =>
    intro i V
    show clL r m (i + 1) _ q = _
    rw [ih, cl1_o h]
theorem clL_at {r : Nat} (hr : r < 8) : ∀ m i V c, i + m ≤ 12 → clL r m i V 135 c = if (12 * r + i ≤ c % 96 ∧ c % 96 < 12 * r + i + m) ∧ c < 864 then (if c < 96 then nI 0 else -1) else V 135 c := by
  intro m
  induction m with
  | zero => intro i V c _; rw [if_neg (fun d => by have := d.1; omega)]; rfl
  | succ m ih =>
    intro i V c hi
    show clL r m (i + 1) _ 135 c = _
    rw [ih _ _ _ (by omega), cl1_at (by omega)]
    by_cases h : (12 * r + i ≤ c % 96 ∧ c % 96 < 12 * r + i + (m + 1)) ∧ c < 864
    · rw [if_pos h]
      by_cases h2 : c % 96 = 12 * r + i
      · rw [if_neg (fun d => by have := d.1.1; omega), if_pos ⟨h2, h.2⟩]
      · rw [if_pos ⟨⟨by omega, by omega⟩, h.2⟩]
    · rw [if_neg h, if_neg (fun d => h ⟨⟨by have := d.1.1; omega, by have := d.1.2; omega⟩, d.2⟩), if_neg (fun d => h ⟨⟨by have := d.1; omega, by have := d.1; omega⟩, d.2⟩)]
theorem Tch.cl {R : Nat} {W : Nat → Nat → Int32} (hR : R < 8) : Tch R W (clL R 12 0 W) := by
  refine ⟨fun q hq => clL_o hq _ _ _, fun c hc => ?_⟩
  rw [clL_at hR _ _ _ _ (by omega), if_neg]
  intro d
  apply hc
  have := d.1
  exact ⟨d.2, by omega⟩
theorem stI_at {V : Nat → Nat → Int32} {r o f : Nat} (h1 : 1 ≤ o) (h9 : o ≤ 9) (hf : f < 12) : stI V r 12 (r + o) f = if o = 1 then nI 0 else -1 := by
  unfold stI
  rw [if_pos ⟨hf, by omega, by omega⟩]
  by_cases e : o = 1
  · subst e; rw [if_pos rfl, if_pos rfl]
  · rw [if_neg (by omega), if_neg e]
theorem m1_le : (-1 : Int32) ≤ nI 20 := by decide +kernel
theorem z_le : nI 0 ≤ nI 20 := by decide +kernel
theorem srM_o {V : Nat → Nat → Int32} {R f q : Nat} {y : Int32} (h : q ≠ 123) (h1 : q ≠ 133) (h2 : q ≠ 134) (h3 : q ≠ 135) : srM V R f y q = V q := by
  unfold srM
  rw [heM_out h3, clL_o h3, jv_U_other h2, jv_U_other h1, jv_U_other h]
theorem staR_o {V : Nat → Nat → Int32} {r f q : Nat} {y h : Int32} (hq : q < r ∨ r + 9 < q) : staR V r f y h q = V q := by
  unfold staR
  rw [brR_out (by unfold Rout; omega), stI_out (by unfold Rout; omega), jv_U_other (by omega), jv_U_other (by omega)]
theorem staR_r {V : Nat → Nat → Int32} {r f : Nat} {y h : Int32} : staR V r f y h r 0 = nI f ∧ staR V r f y h r 1 = y := by
  unfold staR
  rw [brR_out (by unfold Rout; omega), stI_out (by unfold Rout; omega), jv_Unj (by omega), jv_Ueq, jv_Ueq]
  exact ⟨rfl, rfl⟩
theorem INV.started {V W : Nat → Nat → Int32} {N K R t f : Nat} {y : Int32} (H : INV V W N K R t) (hf : f < N) (hy : y ≤ nI 20) (hR7 : R < 8) : INV (jv_U (staR V (43 + 10 * R) f y (V 0 5)) 0 4 (nI (R + 1))) (srM W R f y) N K (R + 1) t := by
  obtain ⟨hC, h5, hM, h8, hT, hP, hO, hS⟩ := H
  obtain ⟨c1, c2, c3, c4, hN, hK, c7⟩ := hC
  obtain ⟨m1, m2, m3, m4, m5, m6, m7, m8⟩ := hM
  let W1 : Nat → Nat → Int32 := jv_U (jv_U (jv_U W 123 3 (nI (R + 1))) 133 R (nI f)) 134 R y
  have w1 : ∀ q, 124 ≤ q → q ≤ 132 → W1 q = W q := fun q g1 g2 => by show jv_U _ _ _ _ q = _; rw [jv_U_other (by omega), jv_U_other (by omega), jv_U_other (by omega)]
  have w5 : W1 135 = W 135 := by show jv_U _ _ _ _ 135 = _; rw [jv_U_other (by omega), jv_U_other (by omega), jv_U_other (by omega)]
  have S1 : SimA V W1 N K R (nI t) := hS.to c7 (fun q g1 g2 => rfl) (fun c hc => by rw [w1 125 (by omega) (by omega)]; exact (hT.2.2.2.1 c hc).1) (fun a b ha hb => by rw [hoM_congr (V := W) (fun q g1 g2 => w1 q (by omega) (by omega))]; exact hP a b ha hb) (fun c _ => by rw [w5]) (fun j hj => by show jv_U _ _ _ _ 134 j = _; rw [jv_Unj (by omega), jv_U_other (by omega), jv_U_other (by omega)])
  have TC : Tch R W1 (srM W R f y) := (Tch.cl (W := W1) hR7).he hR7 (by omega)
  have s134 : srM W R f y 134 = W1 134 := TC.1 134 (by omega)
  have s135 : srM W R f y 135 864 = nI t := by rw [TC.2 864 (by omega), w5]; exact h8
  have base : Sim (stI (jv_U (jv_U V (43 + 10 * R) 0 (nI f)) (43 + 10 * R) 1 y) (43 + 10 * R) 12) (clL R 12 0 W1) (43 + 10 * R) R N K (nI t) := by
    refine ⟨fun o c g1 g9 hc => ?_, fun c hc => ?_, fun a b ha hb => ?_, ?_, ?_⟩
    · rw [stI_at g1 g9 hc, clL_at hR7 _ _ _ _ (by omega)]
      have ho : o = 1 ∨ o = 2 ∨ o = 3 ∨ o = 4 ∨ o = 5 ∨ o = 6 ∨ o = 7 ∨ o = 8 ∨ o = 9 := by omega
      rcases ho with e | e | e | e | e | e | e | e | e <;> subst e
      · show nI 0 = _
        rw [show fo 1 = 0 from rfl, if_pos ⟨by omega, by omega⟩, if_pos (by omega)]
      · show (-1 : Int32) = _
        rw [show fo 2 = 96 from rfl, if_pos ⟨by omega, by omega⟩, if_neg (by omega)]
      · show (-1 : Int32) = _
        rw [show fo 3 = 288 from rfl, if_pos ⟨by omega, by omega⟩, if_neg (by omega)]
      · show (-1 : Int32) = _
        rw [show fo 4 = 192 from rfl, if_pos ⟨by omega, by omega⟩, if_neg (by omega)]
      · show (-1 : Int32) = _
        rw [show fo 5 = 384 from rfl, if_pos ⟨by omega, by omega⟩, if_neg (by omega)]
      · show (-1 : Int32) = _
        rw [show fo 6 = 480 from rfl, if_pos ⟨by omega, by omega⟩, if_neg (by omega)]
      · show (-1 : Int32) = _
        rw [show fo 7 = 576 from rfl, if_pos ⟨by omega, by omega⟩, if_neg (by omega)]
      · show (-1 : Int32) = _
        rw [show fo 8 = 672 from rfl, if_pos ⟨by omega, by omega⟩, if_neg (by omega)]
      · show (-1 : Int32) = _
        rw [show fo 9 = 768 from rfl, if_pos ⟨by omega, by omega⟩, if_neg (by omega)]
    · rw [stI_out (by unfold Rout; omega), jv_U_other (by omega), jv_U_other (by omega), clL_o (by omega), w1 125 (by omega) (by omega)]; exact (hT.2.2.2.1 c hc).1
    · rw [stI_out (by unfold Rout; omega), jv_U_other (by omega), jv_U_other (by omega), hoM_congr (V := W) (fun q g1 g2 => by rw [clL_o (by omega), w1 q (by omega) (by omega)])]; exact hP a b ha hb
    · rw [clL_at hR7 _ _ _ _ (by omega), if_neg (fun d => by have := d.2; omega), w5]; exact h8
    · rw [stI_out (by unfold Rout; omega), jv_Ueq, clL_o (by omega)]; show y = jv_U _ _ _ _ 134 R; rw [jv_Ueq]
  have bdb : Bd (stI (jv_U (jv_U V (43 + 10 * R) 0 (nI f)) (43 + 10 * R) 1 y) (43 + 10 * R) 12) (43 + 10 * R) := by
    refine ⟨?_, fun c hc => ⟨?_, ?_⟩⟩
    · rw [stI_out (by unfold Rout; omega), jv_Ueq]; exact hy
    · rw [stI_at (by omega) (by omega) hc]; exact m1_le
    · rw [stI_at (by omega) (by omega) hc]; exact m1_le
  have zrb : Zr (staR V (43 + 10 * R) f y (V 0 5)) (43 + 10 * R) := by
    intro c hc h1
    unfold staR at h1 ⊢
    by_cases e : c = f
    · subst e; exact absurd h1 brR_s
    · rw [brR_ne e, stI_at (by omega) (by omega) hc]; rfl
  have SS : SimA (staR V (43 + 10 * R) f y (V 0 5)) (srM W R f y) N K (R + 1) (nI t) := by
    intro j hj
    by_cases e : j = R
    · subst e
      refine ⟨?_, bdb.hear z_le, zrb⟩
      rw [h5]
      exact base.hear (by omega) hR7 hN (by omega)
    · obtain ⟨s, b, z⟩ := S1 j (by omega)
      have ho : ∀ q, (q < 43 + 10 * R ∨ 43 + 10 * R + 9 < q) → staR V (43 + 10 * R) f y (V 0 5) q = V q := fun q hq => staR_o hq
      exact ⟨s.other e (by omega) hN TC _ ho, b.other (fun o _ => ho _ (by omega)), z.other (fun o _ => ho _ (by omega))⟩
  have V2 : ∀ q, q ≠ 0 → jv_U (staR V (43 + 10 * R) f y (V 0 5)) 0 4 (nI (R + 1)) q = staR V (43 + 10 * R) f y (V 0 5) q := fun q hq => jv_U_other hq
  have W2 : ∀ q, 124 ≤ q → q ≤ 132 → srM W R f y q = W q := fun q g1 g2 => srM_o (by omega) (by omega) (by omega) (by omega)
  have hT' : TW (jv_U (staR V (43 + 10 * R) f y (V 0 5)) 0 4 (nI (R + 1))) (srM W R f y) K := hT.to hK (fun q hq => by rw [V2 q (by omega), staR_o (by omega)]) (fun q g1 g2 => W2 q g1 g2)
  have hP' : PW (jv_U (staR V (43 + 10 * R) f y (V 0 5)) 0 4 (nI (R + 1))) (srM W R f y) N K := fun a b ha hb => by
    rw [V2 _ (by omega), staR_o (by omega), hoM_congr (V := W) (fun q g1 g2 => W2 q (by omega) g2)]; exact hP a b ha hb
  have w123 : ∀ c, c ≠ 3 → srM W R f y 123 c = W 123 c := fun c hc => by rw [TC.1 123 (by omega)]; show jv_U _ _ _ _ 123 c = _; rw [jv_U_other (by omega), jv_U_other (by omega), jv_Unj hc]
  refine ⟨⟨?_, ?_, ?_, c4, hN, hK, by omega⟩, ?_, ⟨?_, ?_, ?_, m4, m5, m6, by omega, fun k hk => ?_⟩, s135, hT', hP', fun j hj => ?_, ?_⟩
  · rw [V2 1 (by omega), staR_o (by omega)]; exact c1
  · rw [V2 1 (by omega), staR_o (by omega)]; exact c2
  · rw [jv_Ueq]
  · rw [jv_Unj (by omega), staR_o (by omega)]; exact h5
  · rw [w123 1 (by omega)]; exact m1
  · rw [w123 2 (by omega)]; exact m2
  · rw [TC.1 123 (by omega)]; show jv_U _ _ _ _ 123 3 = _; rw [jv_U_other (by omega), jv_U_other (by omega), jv_Ueq]
  · rw [W2 130 (by omega) (by omega)]; exact m8 k hk
  · rw [V2 _ (by omega), TC.1 133 (by omega)]
    show _ = jv_U _ _ _ _ 133 j
    rw [jv_U_other (by omega : 133 ≠ 134)]
    by_cases e : j = R
    · subst e; rw [staR_r.1, jv_Ueq]
    · rw [staR_o (by omega), jv_Unj e, jv_U_other (by omega)]; exact hO j (by omega)
  · exact SS.to (by omega) (fun q g1 g2 => V2 q (by omega)) (fun c hc => (hT'.2.2.2.1 c hc).1) hP' (fun c _ => rfl) (fun j _ => rfl)
theorem INV.denied {V W : Nat → Nat → Int32} {N K R t j f : Nat} (H : INV V W N K R t) (hj : j < R) (hf : f < N) : INV (brD V (43 + 10 * j) f (V 0 5)) (deM W (12 * j + f)) N K R t ∧ hdB V (43 + 10 * j) f = hdM W (12 * j + f) f ∧ V (43 + 10 * j + 1) f = W 135 (0 + (12 * j + f)) := by
  have hN := H.N12
  have hR := H.R8
  have hK := H.K4
  have S := H.sim hj
  have e1 : V (43 + 10 * j + 1) f = W 135 (0 + (12 * j + f)) := S.1 1 f (by omega) (by omega) (by omega)
  have hd : V 2 f = W 124 f := H.hd f (by omega)
  obtain ⟨hC, h5, hM, h8, hT, hP, hO, hS⟩ := H
  have vo : ∀ q, q < 43 + 10 * j + 1 ∨ 43 + 10 * j + 9 < q → brD V (43 + 10 * j) f (V 0 5) q = V q := fun q hq => brD_out hq
  have TC : Tch j W (deM W (12 * j + f)) := (Tch.refl j W).de (by omega) (by omega)
  have wo : ∀ q, q ≠ 135 → deM W (12 * j + f) q = W q := fun q hq => deM_out hq
  refine ⟨⟨hC.o (vo 0 (by omega)) (vo 1 (by omega)), by rw [vo 0 (by omega)]; exact h5, hM.o (wo 123 (by omega)) (wo 130 (by omega)), by rw [TC.2 864 (by omega)]; exact h8, hT.to hK (fun q h => vo q (by omega)) (fun q h1 h2 => wo q (by omega)), fun a b ha hb => ?_, fun i hi => ?_, fun i hi => ?_⟩, ?_, e1⟩
  · rw [vo _ (by omega), hoM_congr (V := W) (fun q h1 h2 => wo q (by omega))]; exact hP a b ha hb
  · rw [vo _ (by omega), wo _ (by omega)]; exact hO i hi
  · obtain ⟨s, b, z⟩ := hS i hi
    by_cases e : i = j
    · subst e
      rw [h5]
      exact ⟨s.deny (by omega) (by omega) hN (by omega), b.deny, z.deny⟩
    · exact ⟨s.other e (by omega) hN TC _ (fun q hq => vo q (by omega)), b.other (fun o _ => vo _ (by omega)), z.other (fun o _ => vo _ (by omega))⟩
  · unfold hdB hdM
    rw [e1, hd]
theorem inV_r {N j : Nat} {h : Int32} : ∀ m i V, inV N h m i V (43 + 10 * j) = V (43 + 10 * j) := by
  intro m
  induction m with
  | zero => intro i V; rfl
  | succ m ih =>
    intro i V
    show inV N h m (i + 1) _ (43 + 10 * j) = _
    rw [ih, phV_out (by unfold Rout; omega)]
theorem alV_o {N R q : Nat} {V : Nat → Nat → Int32} (h : q < 43 ∨ ∃ j, q = 43 + 10 * j) (h0 : q ≠ 0) : alV N R V q = V q := by
  unfold alV
  rw [jv_U_other h0]
  rcases h with h | ⟨j, rfl⟩
  · exact inV_out h _ _ _
  · exact inV_r _ _ _
theorem ouV_o {N R q : Nat} (h : q < 43 ∨ ∃ j, q = 43 + 10 * j) (h0 : q ≠ 0) : ∀ m V, ouV N R m V q = V q := by
  intro m
  induction m with
  | zero => intro V; rfl
  | succ m ih =>
    intro V
    show ouV N R m _ q = _
    rw [ih, alV_o h h0]
theorem ouV_0 {N R c : Nat} (h : c ≠ 5) : ∀ m V, ouV N R m V 0 c = V 0 c := by
  intro m
  induction m with
  | zero => intro V; rfl
  | succ m ih =>
    intro V
    show ouV N R m _ 0 c = _
    rw [ih]
    unfold alV
    rw [jv_Unj h, inV_out (by omega)]
theorem ouM_o {N K R q : Nat} (h : q ≠ 135) : ∀ m W, ouM N K R m W q = W q := by
  intro m
  induction m with
  | zero => intro W; rfl
  | succ m ih =>
    intro W
    show ouM N K R m _ q = _
    rw [ih, houM_out h]
theorem hfM_864 {W : Nat → Nat → Int32} {N K i : Nat} (hi : i < 8) (hN : N ≤ 12) : hfM W N K i 135 864 = W 135 864 := (Tch.hour hi hN).2 864 (by omega)
theorem hqL_864 {N K : Nat} (hN : N ≤ 12) : ∀ m i W, i + m ≤ 8 → hqL N K m i W 135 864 = W 135 864 := by
  intro m
  induction m with
  | zero => intro i W _; rfl
  | succ m ih =>
    intro i W hi
    show hqL N K m (i + 1) _ 135 864 = _
    rw [ih _ _ (by omega), hfM_864 (by omega) hN]
theorem ouM_864 {N K R : Nat} (hN : N ≤ 12) (hR : R ≤ 8) : ∀ m t W, W 135 864 = nI t → ouM N K R m W 135 864 = nI (t + m) := by
  intro m
  induction m with
  | zero => intro t W h; exact h
  | succ m ih =>
    intro t W h
    show ouM N K R m _ 135 864 = _
    rw [ih (t + 1) _ (by unfold houM hoN; rw [jv_Ueq, hqL_864 hN _ _ _ (by omega), h, nI_add]), show t + 1 + m = t + (m + 1) by omega]
theorem INV.pass {V W : Nat → Nat → Int32} {N K R t m : Nat} (H : INV V W N K R t) (ht : t + m ≤ 2 ^ 30) : INV (ouV N R m V) (ouM N K R m W) N K R (t + m) ∧ ouN N R m V (nI 0) = nI (haA (ouM N K R m W) N R 0 0) - nI (haA W N R 0 0) := by
  have hN := H.N12
  have hR := H.R8
  have hK := H.K4
  obtain ⟨hC, h5, hM, h8, hT, hP, hO, hS⟩ := H
  obtain ⟨p1, p2, -⟩ := pass_all hN hR m V W t (nI 0) ht h5 hS
  have p3 := pass_news hN hR ht h5 hS
  refine ⟨⟨hC.to (ouV_0 (by omega) _ _) (ouV_o (Or.inl (by omega)) (by omega) _ _), p2, hM.o (ouM_o (by omega) _ _) (ouM_o (by omega) _ _), ouM_864 hN hR _ _ _ h8, hT.to hK (fun q h => ouV_o (Or.inl (by omega)) (by omega) _ _) (fun q h1 h2 => ouM_o (by omega) _ _), fun a b ha hb => ?_, fun j hj => ?_, p1⟩, p3.symm⟩
  · rw [ouV_o (Or.inl (by omega)) (by omega), hoM_congr (V := W) (fun q h1 h2 => ouM_o (by omega) _ _)]; exact hP a b ha hb
  · rw [ouV_o (Or.inr ⟨j, rfl⟩) (by omega), ouM_o (by omega)]; exact hO j hj

