/-! ===== hours pass on both sides ===== -/
theorem haA_hoN {W : Nat → Nat → Int32} {N R : Nat} (hN : N ≤ 12) (hR : R ≤ 8) : haA (hoN W) N R 0 0 = haA W N R 0 0 :=
  haA_congr _ _ _ (fun j _ h2 => hdL_congr _ _ _ (fun c _ h4 => by unfold hoN; rw [jv_Unj (by omega)]))
theorem pass_all {N K R : Nat} (hN : N ≤ 12) (hR : R ≤ 8) : ∀ m V W t b, t + m ≤ 2 ^ 30 → V 0 5 = nI t → SimA V W N K R (nI t) → SimA (ouV N R m V) (ouM N K R m W) N K R (nI (t + m)) ∧ ouV N R m V 0 5 = nI (t + m) ∧ nI (haA (ouM N K R m W) N R 0 0) + b = nI (haA W N R 0 0) + ouN N R m V b := by
  intro m
  induction m with
  | zero => intro V W t b _ h5 H; exact ⟨H, h5, rfl⟩
  | succ m ih =>
    intro V W t b ht h5 H
    have H1 := (SimA.all hN hR R 0 V W (by omega) H).next hR
    have e : alV N R V = jv_U (inV N (nI t) R 0 V) 0 5 (nI t + nI 1) := by unfold alV; rw [h5]
    have news := SimA.news (K := K) (h := nI t) (nI_nm1 (by omega)) hN hR R 0 V W b (by omega) H
    rw [nI_add] at H1 e
    have f5 : alV N R V 0 5 = nI (t + 1) := by rw [e, jv_Ueq]
    rw [← e] at H1
    obtain ⟨a1, a2, a3⟩ := ih (alV N R V) (houM W N K R) (t + 1) (inN N (V 0 5) R 0 V b) (by omega) f5 H1
    refine ⟨?_, ?_, ?_⟩
    · rw [show t + (m + 1) = t + 1 + m by omega]; exact a1
    · rw [show t + (m + 1) = t + 1 + m by omega]; exact a2
    · have hh : haA (houM W N K R) N R 0 0 = haA (hqL N K R 0 W) N R 0 0 := haA_hoN hN hR
      rw [hh] at a3
      show nI (haA (ouM N K R m (houM W N K R)) N R 0 0) + b = nI (haA W N R 0 0) + ouN N R m (alV N R V) (inN N (V 0 5) R 0 V b)
      rw [h5] at a3 ⊢
      have k1 : nI (haA (ouM N K R m (houM W N K R)) N R 0 0) + b + inN N (nI t) R 0 V b = nI (haA W N R 0 0) + ouN N R m (alV N R V) (inN N (nI t) R 0 V b) + inN N (nI t) R 0 V b := by
        rw [Int32.add_assoc, Int32.add_comm b, ← Int32.add_assoc, a3, Int32.add_assoc, Int32.add_comm (ouN N R m (alV N R V) (inN N (nI t) R 0 V b)) b, ← Int32.add_assoc, news, Int32.add_assoc, Int32.add_assoc, Int32.add_comm (inN N (nI t) R 0 V b)]
      have k2 := congrArg (fun x => x - inN N (nI t) R 0 V b) k1
      simp only [Int32.add_sub_cancel] at k2
      exact k2
theorem pass_news {N K R m t : Nat} {V W : Nat → Nat → Int32} (hN : N ≤ 12) (hR : R ≤ 8) (ht : t + m ≤ 2 ^ 30) (h5 : V 0 5 = nI t) (H : SimA V W N K R (nI t)) : nI (haA (ouM N K R m W) N R 0 0) - nI (haA W N R 0 0) = ouN N R m V (nI 0) := by
  have a := (pass_all hN hR m V W t (nI 0) ht h5 H).2.2
  rw [add_nI0] at a
  rw [a, Int32.add_comm, Int32.add_sub_cancel]
