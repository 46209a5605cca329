/-! ===== each case of the law over the whole relation ===== -/
theorem dcq_all : (List.range 1189).all (fun s => (List.range 11).all fun c => decide (Op.cmpValue (FP.dcmp (FP.ddiv (FP.i2d (nI s)) (FP.i2d (nI (c + 2)))) (FP.ddiv (FP.i2d (nI s)) (FP.i2d (nI (c + 2))))) .l = 0)) = true := by decide +kernel
theorem dcq {s c : Nat} (hs : s < 1189) (hc : 2 ≤ c) (h12 : c ≤ 12) : Op.cmpValue (FP.dcmp (FP.ddiv (FP.i2d (nI s)) (FP.i2d (nI c))) (FP.ddiv (FP.i2d (nI s)) (FP.i2d (nI c)))) .l = 0 := by
  have h1 := List.all_eq_true.mp dcq_all s (List.mem_range.mpr hs)
  have h2 := of_decide_eq_true (List.all_eq_true.mp h1 (c - 2) (List.mem_range.mpr (by omega)))
  rw [show c - 2 + 2 = c by omega] at h2
  exact h2
theorem nIne {c : Nat} (h0 : 0 < c) (h : c < 10) : ¬ nI c = 0 := nI_ne0 h0 (by omega)

set_option maxHeartbeats 4000000 in
set_option maxRecDepth 100000 in
theorem br_0 {g : jv_G} {X : jv_X} {n : Nat} {sx : Nat → jv_S} {V : Nat → Nat → Int32} {L : Nat → Nat → Int64} {k z b M i : Nat} {xs : Nat → Int32} {v5 v6 v7 v8 : Option Value} {N K R t : Nat} (hSc : Sc g X b M xs) (hM : M ≤ 2560) (hi : i + 5 ≤ M) (H : INV V V N K R t) (ht : t + 60 ≤ 2 ^ 29) (hk : 22 ≤ k) (hz : 144 ≤ z) (next : (∀ n' sx' V' L' N' K' R' t' w5 w6 w7 w8, INV V' V' N' K' R' t' → t' ≤ t + 60 → jv_J g X I_L_law 2712 (lws g b i w5 w6 w7 w8) [] n' (SH sx') V' L' (k - 22) (z - 144))) : jv_J g X I_L_law 232 (lws g b i v5 v6 v7 v8) [] n (SH sx) V L k z := by
  have hN := H.N12
  have hN2 := H.1.2.2.2.1
  have hK := H.K4
  have hR := H.R8
  rcases rg (xs (i + 1)) 2 12 (by omega) (by omega) with hx | ⟨hA, hB, m, ea, ha1, ha2⟩
  · exact lc_0 hSc hM hi (by omega) (by omega) (c := 1) (r := nI 0) (V1 := V) (V2 := t1 V 1) (L1 := L) (fun X' hM' => by exact we_build_4  hx (Nat.le_refl 1) (Nat.le_refl 6) hM' (fun n' hn' => ⟨hn', rfl, rfl, rfl, rfl⟩)) (fun n' hn' X' T' hM' hT' => by exact q_build_0  hx hM' hT') jv_Ueq (fun h => absurd h (nIne (by omega) (by omega))) (fun n' hn' => j_wk (by omega) (by omega) (next n' sx _ L _ _ _ _ _ _ _ _ H.no (by omega)))
  · skip
    have hN := H.N12
    have hK := H.K4
    have hR := H.R8
    have ho : ∀ q, 123 ≤ q → (jv_U (layV (rstV (jv_U (jv_U V 1 0 (nI m)) 1 1 (nI 0)) 12) m 0) 0 4 (nI 0)) q = V q := fun q hq => by rw [jv_U_other (by omega), layV_out (by omega), rstV_out (by omega), jv_U_other (by omega), jv_U_other (by omega)]
    generalize hV1 : (jv_U (layV (rstV (jv_U (jv_U V 1 0 (nI m)) 1 1 (nI 0)) 12) m 0) 0 4 (nI 0) : Nat → Nat → Int32) = V1 at ho
    have S : INV V V1 N K R t := H.start ho
    have Z : INV V (t0 V1) N K R t := S.tz
    have P := INV.built (V := V) (W := t0 V1) (m := m) H.2.1 Z.2.2.2.1 (by omega) (by omega)
    have e : nI (m - 1) = nI (m - 1) := rfl
    rw [hV1] at P
    have o2 : ∀ q, q ≤ 122 → (anM (t0 V1) m) q = t0 V1 q := fun q hq => anM_o (by omega)
    have F := P.self (fun q hq => (o2 q (by omega)).trans (t0_out (by omega)))
    exact lc_0 hSc hM hi (by omega) (by omega) (c := 0) (r := nI (m - 1)) (V1 := V1) (V2 := anM (t0 V1) m) (L1 := jv_UL L 140 0 ((nI (m - 1) : Int32).toInt64)) (fun X' hM' => by rw [ea]; exact wg_build ha1 ha2 hM' ⟨Nat.le_refl _, rfl, rfl, hV1, rfl⟩) (fun n' hn' X' T' hM' hT' => by rw [ea]; exact m_build ha1 ha2 hM' hT') (anM_0.trans t0_0) (fun _ => UL_eq) (fun n' hn' => j_wk (by omega) (by omega) (next n' sx _ _ _ _ _ _ _ _ _ _ F (by omega)))

set_option maxHeartbeats 4000000 in
set_option maxRecDepth 100000 in
theorem br_1 {g : jv_G} {X : jv_X} {n : Nat} {sx : Nat → jv_S} {V : Nat → Nat → Int32} {L : Nat → Nat → Int64} {k z b M i : Nat} {xs : Nat → Int32} {v5 v6 v7 v8 : Option Value} {N K R t : Nat} (hSc : Sc g X b M xs) (hM : M ≤ 2560) (hi : i + 5 ≤ M) (H : INV V V N K R t) (ht : t + 60 ≤ 2 ^ 29) (hk : 22 ≤ k) (hz : 144 ≤ z) (next : (∀ n' sx' V' L' N' K' R' t' w5 w6 w7 w8, INV V' V' N' K' R' t' → t' ≤ t + 60 → jv_J g X I_L_law 2712 (lws g b i w5 w6 w7 w8) [] n' (SH sx') V' L' (k - 22) (z - 144))) : jv_J g X I_L_law 288 (lws g b i v5 v6 v7 v8) [] n (SH sx) V L k z := by
  have hN := H.N12
  have hN2 := H.1.2.2.2.1
  have hK := H.K4
  have hR := H.R8
  rcases fl (xs (i + 1)) (n := N) (by omega) with hx | ⟨f, hf, e1⟩
  · exact lc_1 hSc hM hi (by omega) (by omega) (c := 1) (r := nI 0) (V1 := V) (V2 := t1 V 1) (L1 := L) (fun X' hM' => by exact we_setStay_2 H.1  hx (Nat.le_refl 1) (Nat.le_refl 6) hM' (fun n' hn' => ⟨hn', rfl, rfl, rfl, rfl⟩)) (fun n' hn' X' T' hM' hT' => by exact q_setStay_0 H.2.2.1  hx hM' hT') jv_Ueq (fun h => absurd h (nIne (by omega) (by omega))) (fun n' hn' => j_wk (by omega) (by omega) (next n' sx _ L _ _ _ _ _ _ _ _ H.no (by omega)))
  · skip
    rcases rg (xs (i + 2)) 0 9 (by omega) (by omega) with hx | ⟨hA, hB, a, ea, ha1, ha2⟩
    · exact lc_1 hSc hM hi (by omega) (by omega) (c := 2) (r := nI 0) (V1 := V) (V2 := t1 V 2) (L1 := L) (fun X' hM' => by rw [e1]; exact we_setStay_9 H.1 hf hx (Nat.le_refl 1) (Nat.le_refl 6) hM' (fun n' hn' => ⟨hn', rfl, rfl, rfl, rfl⟩)) (fun n' hn' X' T' hM' hT' => by rw [e1]; exact q_setStay_1 H.2.2.1 hf hx hM' hT') jv_Ueq (fun h => absurd h (nIne (by omega) (by omega))) (fun n' hn' => j_wk (by omega) (by omega) (next n' sx _ L _ _ _ _ _ _ _ _ H.no (by omega)))
    · skip
      have hN := H.N12
      have hK := H.K4
      have hR := H.R8
      have ho : ∀ q, 123 ≤ q → (jv_U V 3 f (xs (i + 2))) q = V q := fun q hq => jv_U_other (by omega)
      generalize hV1 : (jv_U V 3 f (xs (i + 2)) : Nat → Nat → Int32) = V1 at ho
      have S : INV V V1 N K R t := H.start ho
      have Z : INV V (t0 V1) N K R t := S.tz
      have P := Z.stay (f := f) ea ha2
      have e := (S.2.2.2.2.1.2.2.2.1 f (by omega)).1
      rw [hV1] at P
      have o2 : ∀ q, q ≤ 123 → (jv_U (t0 V1) 125 f (xs (i + 2))) q = t0 V1 q := fun q hq => jv_U_other (by omega)
      have F := P.self (fun q hq => (o2 q (by omega)).trans (t0_out (by omega)))
      exact lc_1 hSc hM hi (by omega) (by omega) (c := 0) (r := V1 125 f) (V1 := V1) (V2 := jv_U (t0 V1) 125 f (xs (i + 2))) (L1 := jv_UL L 140 0 ((V 3 f : Int32).toInt64)) (fun X' hM' => by rw [e1]; exact wg_setStay H.1 hf hA hB hM' ⟨Nat.le_refl _, rfl, rfl, hV1, rfl⟩) (fun n' hn' X' T' hM' hT' => by rw [e1]; exact m_setStay S.2.2.1 hf hA hB hM' hT') ((congrFun (o2 123 (by omega)) 0).trans t0_0) (fun _ => by rw [UL_eq, e]) (fun n' hn' => j_wk (by omega) (by omega) (next n' sx _ _ _ _ _ _ _ _ _ _ F (by omega)))

set_option maxHeartbeats 4000000 in
set_option maxRecDepth 100000 in
theorem br_2 {g : jv_G} {X : jv_X} {n : Nat} {sx : Nat → jv_S} {V : Nat → Nat → Int32} {L : Nat → Nat → Int64} {k z b M i : Nat} {xs : Nat → Int32} {v5 v6 v7 v8 : Option Value} {N K R t : Nat} (hSc : Sc g X b M xs) (hM : M ≤ 2560) (hi : i + 5 ≤ M) (H : INV V V N K R t) (ht : t + 60 ≤ 2 ^ 29) (hk : 22 ≤ k) (hz : 144 ≤ z) (next : (∀ n' sx' V' L' N' K' R' t' w5 w6 w7 w8, INV V' V' N' K' R' t' → t' ≤ t + 60 → jv_J g X I_L_law 2712 (lws g b i w5 w6 w7 w8) [] n' (SH sx') V' L' (k - 22) (z - 144))) : jv_J g X I_L_law 356 (lws g b i v5 v6 v7 v8) [] n (SH sx) V L k z := by
  have hN := H.N12
  have hN2 := H.1.2.2.2.1
  have hK := H.K4
  have hR := H.R8
  rcases fl (xs (i + 1)) (n := N) (by omega) with hx | ⟨f, hf, e1⟩
  · exact lc_2 hSc hM hi (by omega) (by omega) (c := 1) (r := nI 0) (V1 := V) (V2 := t1 V 1) (L1 := L) (fun X' hM' => by exact we_setHeads_2 H.1  hx (Nat.le_refl 1) (Nat.le_refl 6) hM' (fun n' hn' => ⟨hn', rfl, rfl, rfl, rfl⟩)) (fun n' hn' X' T' hM' hT' => by exact q_setHeads_0 H.2.2.1  hx hM' hT') jv_Ueq (fun h => absurd h (nIne (by omega) (by omega))) (fun n' hn' => j_wk (by omega) (by omega) (next n' sx _ L _ _ _ _ _ _ _ _ H.no (by omega)))
  · skip
    rcases rg (xs (i + 2)) 0 99 (by omega) (by omega) with hx | ⟨hA, hB, a, ea, ha1, ha2⟩
    · exact lc_2 hSc hM hi (by omega) (by omega) (c := 2) (r := nI 0) (V1 := V) (V2 := t1 V 2) (L1 := L) (fun X' hM' => by rw [e1]; exact we_setHeads_9 H.1 hf hx (Nat.le_refl 1) (Nat.le_refl 6) hM' (fun n' hn' => ⟨hn', rfl, rfl, rfl, rfl⟩)) (fun n' hn' X' T' hM' hT' => by rw [e1]; exact q_setHeads_1 H.2.2.1 hf hx hM' hT') jv_Ueq (fun h => absurd h (nIne (by omega) (by omega))) (fun n' hn' => j_wk (by omega) (by omega) (next n' sx _ L _ _ _ _ _ _ _ _ H.no (by omega)))
    · skip
      have hN := H.N12
      have hK := H.K4
      have hR := H.R8
      have ho : ∀ q, 123 ≤ q → (jv_U V 2 f (xs (i + 2))) q = V q := fun q hq => jv_U_other (by omega)
      generalize hV1 : (jv_U V 2 f (xs (i + 2)) : Nat → Nat → Int32) = V1 at ho
      have S : INV V V1 N K R t := H.start ho
      have Z : INV V (t0 V1) N K R t := S.tz
      have P := Z.heads (f := f) ea ha2
      have e := S.hd f (by omega)
      rw [hV1] at P
      have o2 : ∀ q, q ≤ 123 → (jv_U (t0 V1) 124 f (xs (i + 2))) q = t0 V1 q := fun q hq => jv_U_other (by omega)
      have F := P.self (fun q hq => (o2 q (by omega)).trans (t0_out (by omega)))
      exact lc_2 hSc hM hi (by omega) (by omega) (c := 0) (r := V1 124 f) (V1 := V1) (V2 := jv_U (t0 V1) 124 f (xs (i + 2))) (L1 := jv_UL L 140 0 ((V 2 f : Int32).toInt64)) (fun X' hM' => by rw [e1]; exact wg_setHeads H.1 hf hA hB hM' ⟨Nat.le_refl _, rfl, rfl, hV1, rfl⟩) (fun n' hn' X' T' hM' hT' => by rw [e1]; exact m_setHeads S.2.2.1 hf hA hB hM' hT') ((congrFun (o2 123 (by omega)) 0).trans t0_0) (fun _ => by rw [UL_eq, e]) (fun n' hn' => j_wk (by omega) (by omega) (next n' sx _ _ _ _ _ _ _ _ _ _ F (by omega)))

set_option maxHeartbeats 4000000 in
set_option maxRecDepth 100000 in
theorem br_3 {g : jv_G} {X : jv_X} {n : Nat} {sx : Nat → jv_S} {V : Nat → Nat → Int32} {L : Nat → Nat → Int64} {k z b M i : Nat} {xs : Nat → Int32} {v5 v6 v7 v8 : Option Value} {N K R t : Nat} (hSc : Sc g X b M xs) (hM : M ≤ 2560) (hi : i + 5 ≤ M) (H : INV V V N K R t) (ht : t + 60 ≤ 2 ^ 29) (hk : 22 ≤ k) (hz : 144 ≤ z) (next : (∀ n' sx' V' L' N' K' R' t' w5 w6 w7 w8, INV V' V' N' K' R' t' → t' ≤ t + 60 → jv_J g X I_L_law 2712 (lws g b i w5 w6 w7 w8) [] n' (SH sx') V' L' (k - 22) (z - 144))) : jv_J g X I_L_law 424 (lws g b i v5 v6 v7 v8) [] n (SH sx) V L k z := by
  have hN := H.N12
  have hN2 := H.1.2.2.2.1
  have hK := H.K4
  have hR := H.R8
  rcases fl (xs (i + 1)) (n := N - 1) (by omega) with hx | ⟨f, hf0, e1⟩
  · exact lc_3 hSc hM hi (by omega) (by omega) (c := 1) (r := nI 0) (V1 := V) (V2 := t1 V 1) (L1 := L) (fun X' hM' => by exact we_setStairs_2 H.1  hx (Nat.le_refl 1) (Nat.le_refl 6) hM' (fun n' hn' => ⟨hn', rfl, rfl, rfl, rfl⟩)) (fun n' hn' X' T' hM' hT' => by exact q_setStairs_0 H.2.2.1  hx hM' hT') jv_Ueq (fun h => absurd h (nIne (by omega) (by omega))) (fun n' hn' => j_wk (by omega) (by omega) (next n' sx _ L _ _ _ _ _ _ _ _ H.no (by omega)))
  · have hf : f + 1 < N := by omega
    rcases rg (xs (i + 2)) 1 9 (by omega) (by omega) with hx | ⟨hA, hB, a, ea, ha1, ha2⟩
    · exact lc_3 hSc hM hi (by omega) (by omega) (c := 2) (r := nI 0) (V1 := V) (V2 := t1 V 2) (L1 := L) (fun X' hM' => by rw [e1]; exact we_setStairs_9 H.1 hf hx (Nat.le_refl 1) (Nat.le_refl 6) hM' (fun n' hn' => ⟨hn', rfl, rfl, rfl, rfl⟩)) (fun n' hn' X' T' hM' hT' => by rw [e1]; exact q_setStairs_1 H.2.2.1 hf hx hM' hT') jv_Ueq (fun h => absurd h (nIne (by omega) (by omega))) (fun n' hn' => j_wk (by omega) (by omega) (next n' sx _ L _ _ _ _ _ _ _ _ H.no (by omega)))
    · skip
      have hN := H.N12
      have hK := H.K4
      have hR := H.R8
      have ho : ∀ q, 123 ≤ q → (layV (jv_U V 4 f (xs (i + 2))) N K) q = V q := fun q hq => (layV_out (by omega)).trans (jv_U_other (by omega))
      generalize hV1 : (layV (jv_U V 4 f (xs (i + 2))) N K : Nat → Nat → Int32) = V1 at ho
      have S : INV V V1 N K R t := H.start ho
      have Z : INV V (t0 V1) N K R t := S.tz
      have P := Z.stairs (f := f) ea ha1 ha2
      have e := (S.2.2.2.2.1.st f (by omega)).1
      rw [hV1] at P
      have o2 : ∀ q, q ≤ 123 → (jv_U (t0 V1) 126 f (xs (i + 2))) q = t0 V1 q := fun q hq => jv_U_other (by omega)
      have F := P.self (fun q hq => (o2 q (by omega)).trans (t0_out (by omega)))
      exact lc_3 hSc hM hi (by omega) (by omega) (c := 0) (r := V1 126 f) (V1 := V1) (V2 := jv_U (t0 V1) 126 f (xs (i + 2))) (L1 := jv_UL L 140 0 ((V 4 f : Int32).toInt64)) (fun X' hM' => by rw [e1]; exact wg_setStairs H.1 hf hA hB hM' ⟨Nat.le_refl _, rfl, rfl, hV1, rfl⟩) (fun n' hn' X' T' hM' hT' => by rw [e1]; exact m_setStairs S.2.2.1 hf hA hB hM' hT') ((congrFun (o2 123 (by omega)) 0).trans t0_0) (fun _ => by rw [UL_eq, e]) (fun n' hn' => j_wk (by omega) (by omega) (next n' sx _ _ _ _ _ _ _ _ _ _ F (by omega)))

set_option maxHeartbeats 4000000 in
set_option maxRecDepth 100000 in
theorem br_4 {g : jv_G} {X : jv_X} {n : Nat} {sx : Nat → jv_S} {V : Nat → Nat → Int32} {L : Nat → Nat → Int64} {k z b M i : Nat} {xs : Nat → Int32} {v5 v6 v7 v8 : Option Value} {N K R t : Nat} (hSc : Sc g X b M xs) (hM : M ≤ 2560) (hi : i + 5 ≤ M) (H : INV V V N K R t) (ht : t + 60 ≤ 2 ^ 29) (hk : 22 ≤ k) (hz : 144 ≤ z) (next : (∀ n' sx' V' L' N' K' R' t' w5 w6 w7 w8, INV V' V' N' K' R' t' → t' ≤ t + 60 → jv_J g X I_L_law 2712 (lws g b i w5 w6 w7 w8) [] n' (SH sx') V' L' (k - 22) (z - 144))) : jv_J g X I_L_law 492 (lws g b i v5 v6 v7 v8) [] n (SH sx) V L k z := by
  have hN := H.N12
  have hN2 := H.1.2.2.2.1
  have hK := H.K4
  have hR := H.R8
  rcases fl (xs (i + 1)) (n := N - 1) (by omega) with hx | ⟨f, hf0, e1⟩
  · exact lc_4 hSc hM hi (by omega) (by omega) (c := 1) (r := nI 0) (V1 := V) (V2 := t1 V 1) (L1 := L) (fun X' hM' => by exact we_turnStairs_2 H.1  hx (Nat.le_refl 1) (Nat.le_refl 6) hM' (fun n' hn' => ⟨hn', rfl, rfl, rfl, rfl⟩)) (fun n' hn' X' T' hM' hT' => by exact q_turnStairs_0 H.2.2.1  hx hM' hT') jv_Ueq (fun h => absurd h (nIne (by omega) (by omega))) (fun n' hn' => j_wk (by omega) (by omega) (next n' sx _ L _ _ _ _ _ _ _ _ H.no (by omega)))
  · have hf : f + 1 < N := by omega
    have hN := H.N12
    have hK := H.K4
    have hR := H.R8
    have ho : ∀ q, 123 ≤ q → (layV (jv_U V 5 f (nb (V 5 f))) N K) q = V q := fun q hq => (layV_out (by omega)).trans (jv_U_other (by omega))
    generalize hV1 : (layV (jv_U V 5 f (nb (V 5 f))) N K : Nat → Nat → Int32) = V1 at ho
    have S : INV V V1 N K R t := H.start ho
    have Z : INV V (t0 V1) N K R t := S.tz
    obtain ⟨e, P⟩ := Z.turnS (f := f) (by omega)
    rw [show t0 V1 127 = V1 127 from t0_out (by omega)] at e P
    rw [hV1] at P
    have o2 : ∀ q, q ≤ 123 → (jv_U (t0 V1) 127 f (nb (V1 127 f))) q = t0 V1 q := fun q hq => jv_U_other (by omega)
    have F := P.self (fun q hq => (o2 q (by omega)).trans (t0_out (by omega)))
    exact lc_4 hSc hM hi (by omega) (by omega) (c := 0) (r := nb (V1 127 f)) (V1 := V1) (V2 := jv_U (t0 V1) 127 f (nb (V1 127 f))) (L1 := jv_UL L 140 0 (if nb (V 5 f) = 0 then 0 else 1)) (fun X' hM' => by rw [e1]; exact wg_turnStairs H.1 hf hM' ⟨Nat.le_refl _, rfl, rfl, hV1, rfl⟩) (fun n' hn' X' T' hM' hT' => by rw [e1]; exact m_turnStairs S.2.2.1 hf hM' hT') ((congrFun (o2 123 (by omega)) 0).trans t0_0) (fun _ => by rw [UL_eq, e]) (fun n' hn' => j_wk (by omega) (by omega) (next n' sx _ _ _ _ _ _ _ _ _ _ F (by omega)))

set_option maxHeartbeats 4000000 in
set_option maxRecDepth 100000 in
theorem br_6 {g : jv_G} {X : jv_X} {n : Nat} {sx : Nat → jv_S} {V : Nat → Nat → Int32} {L : Nat → Nat → Int64} {k z b M i : Nat} {xs : Nat → Int32} {v5 v6 v7 v8 : Option Value} {N K R t : Nat} (hSc : Sc g X b M xs) (hM : M ≤ 2560) (hi : i + 5 ≤ M) (H : INV V V N K R t) (ht : t + 60 ≤ 2 ^ 29) (hk : 22 ≤ k) (hz : 144 ≤ z) (next : (∀ n' sx' V' L' N' K' R' t' w5 w6 w7 w8, INV V' V' N' K' R' t' → t' ≤ t + 60 → jv_J g X I_L_law 2712 (lws g b i w5 w6 w7 w8) [] n' (SH sx') V' L' (k - 22) (z - 144))) : jv_J g X I_L_law 647 (lws g b i v5 v6 v7 v8) [] n (SH sx) V L k z := by
  have hN := H.N12
  have hN2 := H.1.2.2.2.1
  have hK := H.K4
  have hR := H.R8
  rcases fl (xs (i + 1)) (n := K) (by omega) with hx | ⟨l, hl, e1⟩
  · exact lc_6 hSc hM hi (by omega) (by omega) (c := 1) (r := nI 0) (V1 := V) (V2 := t1 V 1) (L1 := L) (fun X' hM' => by exact we_turnLift_2 H.1  hx (Nat.le_refl 1) (Nat.le_refl 6) hM' (fun n' hn' => ⟨hn', rfl, rfl, rfl, rfl⟩)) (fun n' hn' X' T' hM' hT' => by exact q_turnLift_0 H.2.2.1  hx hM' hT') jv_Ueq (fun h => absurd h (nIne (by omega) (by omega))) (fun n' hn' => j_wk (by omega) (by omega) (next n' sx _ L _ _ _ _ _ _ _ _ H.no (by omega)))
  · skip
    have hN := H.N12
    have hK := H.K4
    have hR := H.R8
    have ho : ∀ q, 123 ≤ q → (layV (jv_U V (20 + 2 * l) 0 (nb (V (20 + 2 * l) 0))) N K) q = V q := fun q hq => (layV_out (by omega)).trans (jv_U_other (by omega))
    generalize hV1 : (layV (jv_U V (20 + 2 * l) 0 (nb (V (20 + 2 * l) 0))) N K : Nat → Nat → Int32) = V1 at ho
    have S : INV V V1 N K R t := H.start ho
    have Z : INV V (t0 V1) N K R t := S.tz
    obtain ⟨e, P⟩ := Z.turnL hl
    rw [show t0 V1 132 = V1 132 from t0_out (by omega)] at e P
    rw [hV1] at P
    have o2 : ∀ q, q ≤ 123 → (jv_U (t0 V1) 132 l (nb (V1 132 l))) q = t0 V1 q := fun q hq => jv_U_other (by omega)
    have F := P.self (fun q hq => (o2 q (by omega)).trans (t0_out (by omega)))
    exact lc_6 hSc hM hi (by omega) (by omega) (c := 0) (r := nb (V1 132 l)) (V1 := V1) (V2 := jv_U (t0 V1) 132 l (nb (V1 132 l))) (L1 := jv_UL L 140 0 (if nb (V (20 + 2 * l) 0) = 0 then 0 else 1)) (fun X' hM' => by rw [e1]; exact wg_turnLift H.1 hl hM' ⟨Nat.le_refl _, rfl, rfl, hV1, rfl⟩) (fun n' hn' X' T' hM' hT' => by rw [e1]; exact m_turnLift S.2.2.1 hl hM' hT') ((congrFun (o2 123 (by omega)) 0).trans t0_0) (fun _ => by rw [UL_eq, e]) (fun n' hn' => j_wk (by omega) (by omega) (next n' sx _ _ _ _ _ _ _ _ _ _ F (by omega)))

set_option maxHeartbeats 4000000 in
set_option maxRecDepth 100000 in
theorem br_7 {g : jv_G} {X : jv_X} {n : Nat} {sx : Nat → jv_S} {V : Nat → Nat → Int32} {L : Nat → Nat → Int64} {k z b M i : Nat} {xs : Nat → Int32} {v5 v6 v7 v8 : Option Value} {N K R t : Nat} (hSc : Sc g X b M xs) (hM : M ≤ 2560) (hi : i + 5 ≤ M) (H : INV V V N K R t) (ht : t + 60 ≤ 2 ^ 29) (hk : 22 ≤ k) (hz : 144 ≤ z) (next : (∀ n' sx' V' L' N' K' R' t' w5 w6 w7 w8, INV V' V' N' K' R' t' → t' ≤ t + 60 → jv_J g X I_L_law 2712 (lws g b i w5 w6 w7 w8) [] n' (SH sx') V' L' (k - 22) (z - 144))) : jv_J g X I_L_law 710 (lws g b i v5 v6 v7 v8) [] n (SH sx) V L k z := by
  have hN := H.N12
  have hN2 := H.1.2.2.2.1
  have hK := H.K4
  have hR := H.R8
  rcases fl (xs (i + 1)) (n := N) (by omega) with hx | ⟨f, hf, e1⟩
  · exact lc_7 hSc hM hi (by omega) (by omega) (c := 1) (r := nI 0) (V1 := V) (V2 := t1 V 1) (L1 := L) (fun X' hM' => by exact we_startRumour_2 H.1  hx (Nat.le_refl 1) (Nat.le_refl 6) hM' (fun n' hn' => ⟨hn', rfl, rfl, rfl, rfl⟩)) (fun n' hn' X' T' hM' hT' => by exact q_startRumour_0 H.2.2.1  hx hM' hT') jv_Ueq (fun h => absurd h (nIne (by omega) (by omega))) (fun n' hn' => j_wk (by omega) (by omega) (next n' sx _ L _ _ _ _ _ _ _ _ H.no (by omega)))
  · skip
    rcases rg (xs (i + 2)) 1 20 (by omega) (by omega) with hx | ⟨hA, hB, a, ea, ha1, ha2⟩
    · exact lc_7 hSc hM hi (by omega) (by omega) (c := 2) (r := nI 0) (V1 := V) (V2 := t1 V 2) (L1 := L) (fun X' hM' => by rw [e1]; exact we_startRumour_9 H.1 hf hx (Nat.le_refl 1) (Nat.le_refl 6) hM' (fun n' hn' => ⟨hn', rfl, rfl, rfl, rfl⟩)) (fun n' hn' X' T' hM' hT' => by rw [e1]; exact q_startRumour_1 H.2.2.1 hf hx hM' hT') jv_Ueq (fun h => absurd h (nIne (by omega) (by omega))) (fun n' hn' => j_wk (by omega) (by omega) (next n' sx _ L _ _ _ _ _ _ _ _ H.no (by omega)))
    · skip
      by_cases hR7 : R < 8
      · skip
        have hN := H.N12
        have hK := H.K4
        have hR := H.R8
        have ho : ∀ q, 123 ≤ q → (jv_U (staR V (43 + 10 * R) f (xs (i + 2)) (V 0 5)) 0 4 (nI (R + 1))) q = V q := fun q hq => by rw [jv_U_other (by omega), staR_o (by omega)]
        generalize hV1 : (jv_U (staR V (43 + 10 * R) f (xs (i + 2)) (V 0 5)) 0 4 (nI (R + 1)) : Nat → Nat → Int32) = V1 at ho
        have S : INV V V1 N K R t := H.start ho
        have Z : INV V (t0 V1) N K R t := S.tz
        have P := Z.started (y := xs (i + 2)) hf hB hR7
        have e : nI R = nI R := rfl
        rw [hV1] at P
        have o2 : ∀ q, q ≤ 122 → (srM (t0 V1) R f (xs (i + 2))) q = t0 V1 q := fun q hq => srM_o (by omega) (by omega) (by omega) (by omega)
        have F := P.self (fun q hq => (o2 q (by omega)).trans (t0_out (by omega)))
        exact lc_7 hSc hM hi (by omega) (by omega) (c := 0) (r := nI R) (V1 := V1) (V2 := srM (t0 V1) R f (xs (i + 2))) (L1 := jv_UL L 140 0 ((nI R : Int32).toInt64)) (fun X' hM' => by rw [e1]; exact wg_startRumour H.1 hf hA hB hR7 hM' ⟨Nat.le_refl _, rfl, rfl, hV1, rfl⟩) (fun n' hn' X' T' hM' hT' => by rw [e1]; exact m_startRumour S.2.2.1 hf hA hB hR7 hM' hT') (srM_0.trans t0_0) (fun _ => UL_eq) (fun n' hn' => j_wk (by omega) (by omega) (next n' sx _ _ _ _ _ _ _ _ _ _ F (by omega)))
      · exact lc_7 hSc hM hi (by omega) (by omega) (c := 3) (r := nI 0) (V1 := V) (V2 := t1 V 3) (L1 := L) (fun X' hM' => by rw [e1]; exact we_startRumour_18 H.1 hf hA hB (by omega) (Nat.le_refl 1) (Nat.le_refl 6) hM' (fun n' hn' => ⟨hn', rfl, rfl, rfl, rfl⟩)) (fun n' hn' X' T' hM' hT' => by rw [e1]; exact q_startRumour_2 H.2.2.1 hf hA hB (by omega) hM' hT') jv_Ueq (fun h => absurd h (nIne (by omega) (by omega))) (fun n' hn' => j_wk (by omega) (by omega) (next n' sx _ L _ _ _ _ _ _ _ _ H.no (by omega)))

set_option maxHeartbeats 4000000 in
set_option maxRecDepth 100000 in
theorem br_8 {g : jv_G} {X : jv_X} {n : Nat} {sx : Nat → jv_S} {V : Nat → Nat → Int32} {L : Nat → Nat → Int64} {k z b M i : Nat} {xs : Nat → Int32} {v5 v6 v7 v8 : Option Value} {N K R t : Nat} (hSc : Sc g X b M xs) (hM : M ≤ 2560) (hi : i + 5 ≤ M) (H : INV V V N K R t) (ht : t + 60 ≤ 2 ^ 29) (hk : 22 ≤ k) (hz : 144 ≤ z) (next : (∀ n' sx' V' L' N' K' R' t' w5 w6 w7 w8, INV V' V' N' K' R' t' → t' ≤ t + 60 → jv_J g X I_L_law 2712 (lws g b i w5 w6 w7 w8) [] n' (SH sx') V' L' (k - 22) (z - 144))) : jv_J g X I_L_law 778 (lws g b i v5 v6 v7 v8) [] n (SH sx) V L k z := by
  have hN := H.N12
  have hN2 := H.1.2.2.2.1
  have hK := H.K4
  have hR := H.R8
  rcases fl (xs (i + 1)) (n := R) (by omega) with hx | ⟨j, hj, e1⟩
  · exact lc_8 hSc hM hi (by omega) (by omega) (c := 1) (r := nI 0) (V1 := V) (V2 := t1 V 1) (L1 := L) (fun X' hM' => by exact we_startDenial_2 H.1  hx (Nat.le_refl 1) (Nat.le_refl 6) hM' (fun n' hn' => ⟨hn', rfl, rfl, rfl, rfl⟩)) (fun n' hn' X' T' hM' hT' => by exact q_startDenial_0 H.2.2.1  hx hM' hT') jv_Ueq (fun h => absurd h (nIne (by omega) (by omega))) (fun n' hn' => j_wk (by omega) (by omega) (next n' sx _ L _ _ _ _ _ _ _ _ H.no (by omega)))
  · skip
    rcases fl (xs (i + 2)) (n := N) (by omega) with hx | ⟨f, hf, e2⟩
    · exact lc_8 hSc hM hi (by omega) (by omega) (c := 1) (r := nI 0) (V1 := V) (V2 := t1 V 1) (L1 := L) (fun X' hM' => by rw [e1]; exact we_startDenial_7 H.1 hj hx (Nat.le_refl 1) (Nat.le_refl 6) hM' (fun n' hn' => ⟨hn', rfl, rfl, rfl, rfl⟩)) (fun n' hn' X' T' hM' hT' => by rw [e1]; exact q_startDenial_1 H.2.2.1 hj hx hM' hT') jv_Ueq (fun h => absurd h (nIne (by omega) (by omega))) (fun n' hn' => j_wk (by omega) (by omega) (next n' sx _ L _ _ _ _ _ _ _ _ H.no (by omega)))
    · skip
      have es : V (43 + 10 * j + 1) f = V 135 (0 + (12 * j + f)) := (H.sim hj).1 1 f (by omega) (by omega) (by omega)
      by_cases hS : V (43 + 10 * j + 1) f = nI 2
      · exact lc_8 hSc hM hi (by omega) (by omega) (c := 2) (r := nI 0) (V1 := V) (V2 := t1 V 2) (L1 := L) (fun X' hM' => by rw [e1, e2]; exact we_startDenial_24 H.1 hj hf hS (Nat.le_refl 1) (Nat.le_refl 6) hM' (fun n' hn' => ⟨hn', rfl, rfl, rfl, rfl⟩)) (fun n' hn' X' T' hM' hT' => by rw [e1, e2]; exact q_startDenial_2 H.2.2.1 hj hf (by rw [← es]; exact hS) hM' hT') jv_Ueq (fun h => absurd h (nIne (by omega) (by omega))) (fun n' hn' => j_wk (by omega) (by omega) (next n' sx _ L _ _ _ _ _ _ _ _ H.no (by omega)))
      · skip
        have hN := H.N12
        have hK := H.K4
        have hR := H.R8
        have ho : ∀ q, 123 ≤ q → (brD V (43 + 10 * j) f (V 0 5)) q = V q := fun q hq => brD_out (by unfold Rout; omega)
        generalize hV1 : (brD V (43 + 10 * j) f (V 0 5) : Nat → Nat → Int32) = V1 at ho
        have S : INV V V1 N K R t := H.start ho
        have Z : INV V (t0 V1) N K R t := S.tz
        obtain ⟨P, e, -⟩ := Z.denied hj hf
        rw [show hdM (t0 V1) (12 * j + f) f = hdM V1 (12 * j + f) f by unfold hdM; rw [t0_out (by omega), t0_out (by omega)]] at e
        rw [hV1] at P
        have o2 : ∀ q, q ≤ 123 → (deM (t0 V1) (12 * j + f)) q = t0 V1 q := fun q hq => deM_out (by omega)
        have F := P.self (fun q hq => (o2 q (by omega)).trans (t0_out (by omega)))
        exact lc_8 hSc hM hi (by omega) (by omega) (c := 0) (r := hdM V1 (12 * j + f) f) (V1 := V1) (V2 := deM (t0 V1) (12 * j + f)) (L1 := jv_UL L 140 0 ((hdB V (43 + 10 * j) f : Int32).toInt64)) (fun X' hM' => by rw [e1, e2]; exact wg_startDenial H.1 hj hf hS hM' ⟨Nat.le_refl _, rfl, rfl, hV1, rfl⟩) (fun n' hn' X' T' hM' hT' => by rw [e1, e2]; exact m_startDenial S.2.2.1 hj hf (by rw [ho 135 (by omega), ← es]; exact hS) hM' hT') ((congrFun (o2 123 (by omega)) 0).trans t0_0) (fun _ => by rw [UL_eq, e]) (fun n' hn' => j_wk (by omega) (by omega) (next n' sx _ _ _ _ _ _ _ _ _ _ F (by omega)))

set_option maxHeartbeats 4000000 in
set_option maxRecDepth 100000 in
theorem br_9 {g : jv_G} {X : jv_X} {n : Nat} {sx : Nat → jv_S} {V : Nat → Nat → Int32} {L : Nat → Nat → Int64} {k z b M i : Nat} {xs : Nat → Int32} {v5 v6 v7 v8 : Option Value} {N K R t : Nat} (hSc : Sc g X b M xs) (hM : M ≤ 2560) (hi : i + 5 ≤ M) (H : INV V V N K R t) (ht : t + 60 ≤ 2 ^ 29) (hk : 22 ≤ k) (hz : 144 ≤ z) (next : (∀ n' sx' V' L' N' K' R' t' w5 w6 w7 w8, INV V' V' N' K' R' t' → t' ≤ t + 60 → jv_J g X I_L_law 2712 (lws g b i w5 w6 w7 w8) [] n' (SH sx') V' L' (k - 22) (z - 144))) : jv_J g X I_L_law 846 (lws g b i v5 v6 v7 v8) [] n (SH sx) V L k z := by
  have hN := H.N12
  have hN2 := H.1.2.2.2.1
  have hK := H.K4
  have hR := H.R8
  rcases rg (xs (i + 1)) 1 60 (by omega) (by omega) with hx | ⟨hA, hB, m, ea, ha1, ha2⟩
  · exact lc_9 hSc hM hi (by omega) (by omega) (c := 1) (r := nI 0) (V1 := V) (V2 := t1 V 1) (L1 := L) (fun X' hM' => by exact we_passHours_4  hx (Nat.le_refl 1) (Nat.le_refl 6) hM' (fun n' hn' => ⟨hn', rfl, rfl, rfl, rfl⟩)) (fun n' hn' X' T' hM' hT' => by exact q_passHours_0  hx hM' hT') jv_Ueq (fun h => absurd h (nIne (by omega) (by omega))) (fun n' hn' => j_wk (by omega) (by omega) (next n' sx _ L _ _ _ _ _ _ _ _ H.no (by omega)))
  · skip
    have hN := H.N12
    have hK := H.K4
    have hR := H.R8
    have ho : ∀ q, 123 ≤ q → (ouV N R m V) q = V q := fun q hq => ouV_hi hq hR _ _
    generalize hV1 : (ouV N R m V : Nat → Nat → Int32) = V1 at ho
    have S : INV V V1 N K R t := H.start ho
    have Z : INV V (t0 V1) N K R t := S.tz
    obtain ⟨P, e⟩ := Z.pass (m := m) (by omega)
    rw [hV1] at P
    have o2 : ∀ q, q ≤ 123 → (ouM N K R m (t0 V1)) q = t0 V1 q := fun q hq => ouM_o (by omega) _ _
    have F := P.self (fun q hq => (o2 q (by omega)).trans (t0_out (by omega)))
    exact lc_9 hSc hM hi (by omega) (by omega) (c := 0) (r := nI (haA (ouM N K R m (t0 V1)) N R 0 0) - nI (haA (t0 V1) N R 0 0)) (V1 := V1) (V2 := ouM N K R m (t0 V1)) (L1 := jv_UL L 140 0 ((ouN N R m V (nI 0) : Int32).toInt64)) (fun X' hM' => by rw [ea]; exact wg_passHours H.1 ha1 ha2 hM' ⟨Nat.le_refl _, rfl, rfl, hV1, rfl⟩) (fun n' hn' X' T' hM' hT' => by rw [ea]; exact m_passHours S.2.2.1 ha1 ha2 hM' hT') ((congrFun (o2 123 (by omega)) 0).trans t0_0) (fun _ => by rw [UL_eq, e]) (fun n' hn' => j_wk (by omega) (by omega) (next n' sx _ _ _ _ _ _ _ _ _ _ F (by omega)))

set_option maxHeartbeats 4000000 in
set_option maxRecDepth 100000 in
theorem br_14 {g : jv_G} {X : jv_X} {n : Nat} {sx : Nat → jv_S} {V : Nat → Nat → Int32} {L : Nat → Nat → Int64} {k z b M i : Nat} {xs : Nat → Int32} {v5 v6 v7 v8 : Option Value} {N K R t : Nat} (hSc : Sc g X b M xs) (hM : M ≤ 2560) (hi : i + 5 ≤ M) (H : INV V V N K R t) (ht : t + 60 ≤ 2 ^ 29) (hk : 22 ≤ k) (hz : 144 ≤ z) (next : (∀ n' sx' V' L' N' K' R' t' w5 w6 w7 w8, INV V' V' N' K' R' t' → t' ≤ t + 60 → jv_J g X I_L_law 2712 (lws g b i w5 w6 w7 w8) [] n' (SH sx') V' L' (k - 22) (z - 144))) : jv_J g X I_L_law 954 (lws g b i v5 v6 v7 v8) [] n (SH sx) V L k z := by
  have hN := H.N12
  have hN2 := H.1.2.2.2.1
  have hK := H.K4
  have hR := H.R8
  rcases fl (xs (i + 1)) (n := N) (by omega) with hx | ⟨f, hf, e1⟩
  · exact lc_14 hSc hM hi (by omega) (by omega) (c := 1) (r := nI 0) (V1 := V) (V2 := t1 V 1) (L1 := L) (fun X' hM' => by exact we_headsOf_2 H.1  hx (Nat.le_refl 1) (Nat.le_refl 6) hM' (fun n' hn' => ⟨hn', rfl, rfl, rfl, rfl⟩)) (fun n' hn' X' T' hM' hT' => by rw [show t1 V 1 = t2 V 1 from jv_U_again] at hT'; exact q_headsOf_0 H.2.2.1  hx hM' hT') jv_Ueq (fun h => absurd h (nIne (by omega) (by omega))) (fun n' hn' => j_wk (by omega) (by omega) (next n' sx _ L _ _ _ _ _ _ _ _ H.no (by omega)))
  · skip
    have hN := H.N12
    have hK := H.K4
    have hR := H.R8
    have Z : INV V (t0 V) N K R t := H.tz
    have P : INV V (t2 V 0) N K R t := Z
    have e := H.hd f (by omega)
    have F := P.self (fun q hq => t0_out (by omega))
    exact lc_14 hSc hM hi (by omega) (by omega) (c := 0) (r := V 124 f) (V1 := V) (V2 := t2 V 0) (L1 := jv_UL L 140 0 ((V 2 f : Int32).toInt64)) (fun X' hM' => by rw [e1]; exact wg_headsOf H.1 hf hM' ⟨Nat.le_refl _, rfl, rfl, rfl, rfl⟩) (fun n' hn' X' T' hM' hT' => by rw [e1]; exact m_headsOf H.2.2.1 hf hM' hT') (t0_0) (fun _ => by rw [UL_eq, e]) (fun n' hn' => j_wk (by omega) (by omega) (next n' sx _ _ _ _ _ _ _ _ _ _ F (by omega)))

set_option maxHeartbeats 4000000 in
set_option maxRecDepth 100000 in
theorem br_15 {g : jv_G} {X : jv_X} {n : Nat} {sx : Nat → jv_S} {V : Nat → Nat → Int32} {L : Nat → Nat → Int64} {k z b M i : Nat} {xs : Nat → Int32} {v5 v6 v7 v8 : Option Value} {N K R t : Nat} (hSc : Sc g X b M xs) (hM : M ≤ 2560) (hi : i + 5 ≤ M) (H : INV V V N K R t) (ht : t + 60 ≤ 2 ^ 29) (hk : 22 ≤ k) (hz : 144 ≤ z) (next : (∀ n' sx' V' L' N' K' R' t' w5 w6 w7 w8, INV V' V' N' K' R' t' → t' ≤ t + 60 → jv_J g X I_L_law 2712 (lws g b i w5 w6 w7 w8) [] n' (SH sx') V' L' (k - 22) (z - 144))) : jv_J g X I_L_law 1010 (lws g b i v5 v6 v7 v8) [] n (SH sx) V L k z := by
  have hN := H.N12
  have hN2 := H.1.2.2.2.1
  have hK := H.K4
  have hR := H.R8
  rcases fl (xs (i + 1)) (n := N) (by omega) with hx | ⟨f, hf, e1⟩
  · exact lc_15 hSc hM hi (by omega) (by omega) (c := 1) (r := nI 0) (V1 := V) (V2 := t1 V 1) (L1 := L) (fun X' hM' => by exact we_stayOf_2 H.1  hx (Nat.le_refl 1) (Nat.le_refl 6) hM' (fun n' hn' => ⟨hn', rfl, rfl, rfl, rfl⟩)) (fun n' hn' X' T' hM' hT' => by rw [show t1 V 1 = t2 V 1 from jv_U_again] at hT'; exact q_stayOf_0 H.2.2.1  hx hM' hT') jv_Ueq (fun h => absurd h (nIne (by omega) (by omega))) (fun n' hn' => j_wk (by omega) (by omega) (next n' sx _ L _ _ _ _ _ _ _ _ H.no (by omega)))
  · skip
    have hN := H.N12
    have hK := H.K4
    have hR := H.R8
    have Z : INV V (t0 V) N K R t := H.tz
    have P : INV V (t2 V 0) N K R t := Z
    have e := (H.2.2.2.2.1.2.2.2.1 f (by omega)).1
    have F := P.self (fun q hq => t0_out (by omega))
    exact lc_15 hSc hM hi (by omega) (by omega) (c := 0) (r := V 125 f) (V1 := V) (V2 := t2 V 0) (L1 := jv_UL L 140 0 ((V 3 f : Int32).toInt64)) (fun X' hM' => by rw [e1]; exact wg_stayOf H.1 hf hM' ⟨Nat.le_refl _, rfl, rfl, rfl, rfl⟩) (fun n' hn' X' T' hM' hT' => by rw [e1]; exact m_stayOf H.2.2.1 hf hM' hT') (t0_0) (fun _ => by rw [UL_eq, e]) (fun n' hn' => j_wk (by omega) (by omega) (next n' sx _ _ _ _ _ _ _ _ _ _ F (by omega)))

set_option maxHeartbeats 4000000 in
set_option maxRecDepth 100000 in
theorem br_16 {g : jv_G} {X : jv_X} {n : Nat} {sx : Nat → jv_S} {V : Nat → Nat → Int32} {L : Nat → Nat → Int64} {k z b M i : Nat} {xs : Nat → Int32} {v5 v6 v7 v8 : Option Value} {N K R t : Nat} (hSc : Sc g X b M xs) (hM : M ≤ 2560) (hi : i + 5 ≤ M) (H : INV V V N K R t) (ht : t + 60 ≤ 2 ^ 29) (hk : 22 ≤ k) (hz : 144 ≤ z) (next : (∀ n' sx' V' L' N' K' R' t' w5 w6 w7 w8, INV V' V' N' K' R' t' → t' ≤ t + 60 → jv_J g X I_L_law 2712 (lws g b i w5 w6 w7 w8) [] n' (SH sx') V' L' (k - 22) (z - 144))) : jv_J g X I_L_law 1066 (lws g b i v5 v6 v7 v8) [] n (SH sx) V L k z := by
  have hN := H.N12
  have hN2 := H.1.2.2.2.1
  have hK := H.K4
  have hR := H.R8
  rcases fl (xs (i + 1)) (n := N - 1) (by omega) with hx | ⟨f, hf0, e1⟩
  · exact lc_16 hSc hM hi (by omega) (by omega) (c := 1) (r := nI 0) (V1 := V) (V2 := t1 V 1) (L1 := L) (fun X' hM' => by exact we_stairsOf_2 H.1  hx (Nat.le_refl 1) (Nat.le_refl 6) hM' (fun n' hn' => ⟨hn', rfl, rfl, rfl, rfl⟩)) (fun n' hn' X' T' hM' hT' => by rw [show t1 V 1 = t2 V 1 from jv_U_again] at hT'; exact q_stairsOf_0 H.2.2.1  hx hM' hT') jv_Ueq (fun h => absurd h (nIne (by omega) (by omega))) (fun n' hn' => j_wk (by omega) (by omega) (next n' sx _ L _ _ _ _ _ _ _ _ H.no (by omega)))
  · have hf : f + 1 < N := by omega
    have hN := H.N12
    have hK := H.K4
    have hR := H.R8
    have Z : INV V (t0 V) N K R t := H.tz
    have P : INV V (t2 V 0) N K R t := Z
    have e := (H.2.2.2.2.1.st f (by omega)).1
    have F := P.self (fun q hq => t0_out (by omega))
    exact lc_16 hSc hM hi (by omega) (by omega) (c := 0) (r := V 126 f) (V1 := V) (V2 := t2 V 0) (L1 := jv_UL L 140 0 ((V 4 f : Int32).toInt64)) (fun X' hM' => by rw [e1]; exact wg_stairsOf H.1 hf hM' ⟨Nat.le_refl _, rfl, rfl, rfl, rfl⟩) (fun n' hn' X' T' hM' hT' => by rw [e1]; exact m_stairsOf H.2.2.1 hf hM' hT') (t0_0) (fun _ => by rw [UL_eq, e]) (fun n' hn' => j_wk (by omega) (by omega) (next n' sx _ _ _ _ _ _ _ _ _ _ F (by omega)))

set_option maxHeartbeats 4000000 in
set_option maxRecDepth 100000 in
theorem br_17 {g : jv_G} {X : jv_X} {n : Nat} {sx : Nat → jv_S} {V : Nat → Nat → Int32} {L : Nat → Nat → Int64} {k z b M i : Nat} {xs : Nat → Int32} {v5 v6 v7 v8 : Option Value} {N K R t : Nat} (hSc : Sc g X b M xs) (hM : M ≤ 2560) (hi : i + 5 ≤ M) (H : INV V V N K R t) (ht : t + 60 ≤ 2 ^ 29) (hk : 22 ≤ k) (hz : 144 ≤ z) (next : (∀ n' sx' V' L' N' K' R' t' w5 w6 w7 w8, INV V' V' N' K' R' t' → t' ≤ t + 60 → jv_J g X I_L_law 2712 (lws g b i w5 w6 w7 w8) [] n' (SH sx') V' L' (k - 22) (z - 144))) : jv_J g X I_L_law 1122 (lws g b i v5 v6 v7 v8) [] n (SH sx) V L k z := by
  have hN := H.N12
  have hN2 := H.1.2.2.2.1
  have hK := H.K4
  have hR := H.R8
  rcases fl (xs (i + 1)) (n := N - 1) (by omega) with hx | ⟨f, hf0, e1⟩
  · exact lc_17 hSc hM hi (by omega) (by omega) (c := 1) (r := nI 0) (V1 := V) (V2 := t1 V 1) (L1 := L) (fun X' hM' => by exact we_isOpen_2 H.1  hx (Nat.le_refl 1) (Nat.le_refl 6) hM' (fun n' hn' => ⟨hn', rfl, rfl, rfl, rfl⟩)) (fun n' hn' X' T' hM' hT' => by exact q_isOpen_0 H.2.2.1  hx hM' hT') jv_Ueq (fun h => absurd h (nIne (by omega) (by omega))) (fun n' hn' => j_wk (by omega) (by omega) (next n' sx _ L _ _ _ _ _ _ _ _ H.no (by omega)))
  · have hf : f + 1 < N := by omega
    have hN := H.N12
    have hK := H.K4
    have hR := H.R8
    have Z : INV V (t0 V) N K R t := H.tz
    have P := Z
    have e := (H.2.2.2.2.1.st f (by omega)).2
    have hx2 := H.2.2.2.2.1.2.2.2.2.2 f (by omega)
    have hx : V 5 f = 0 ∨ V 5 f = 1 := by rw [e]; exact hx2
    have F := P.self (fun q hq => t0_out (by omega))
    exact lc_17 hSc hM hi (by omega) (by omega) (c := 0) (r := V 127 f) (V1 := V) (V2 := t0 V) (L1 := jv_UL L 140 0 (if V 5 f = 0 then 0 else 1)) (fun X' hM' => by rw [e1]; exact wg_isOpen H.1 hf hx hM' ⟨Nat.le_refl _, rfl, rfl, rfl, rfl⟩) (fun n' hn' X' T' hM' hT' => by rw [e1]; exact m_isOpen H.2.2.1 hf hx2 hM' hT') (t0_0) (fun _ => by rw [UL_eq, e]) (fun n' hn' => j_wk (by omega) (by omega) (next n' sx _ _ _ _ _ _ _ _ _ _ F (by omega)))

set_option maxHeartbeats 4000000 in
set_option maxRecDepth 100000 in
theorem br_18 {g : jv_G} {X : jv_X} {n : Nat} {sx : Nat → jv_S} {V : Nat → Nat → Int32} {L : Nat → Nat → Int64} {k z b M i : Nat} {xs : Nat → Int32} {v5 v6 v7 v8 : Option Value} {N K R t : Nat} (hSc : Sc g X b M xs) (hM : M ≤ 2560) (hi : i + 5 ≤ M) (H : INV V V N K R t) (ht : t + 60 ≤ 2 ^ 29) (hk : 22 ≤ k) (hz : 144 ≤ z) (next : (∀ n' sx' V' L' N' K' R' t' w5 w6 w7 w8, INV V' V' N' K' R' t' → t' ≤ t + 60 → jv_J g X I_L_law 2712 (lws g b i w5 w6 w7 w8) [] n' (SH sx') V' L' (k - 22) (z - 144))) : jv_J g X I_L_law 1185 (lws g b i v5 v6 v7 v8) [] n (SH sx) V L k z := by
  have hN := H.N12
  have hN2 := H.1.2.2.2.1
  have hK := H.K4
  have hR := H.R8
  rcases fl (xs (i + 1)) (n := K) (by omega) with hx | ⟨l, hl, e1⟩
  · exact lc_18 hSc hM hi (by omega) (by omega) (c := 1) (r := nI 0) (V1 := V) (V2 := t1 V 1) (L1 := L) (fun X' hM' => by exact we_runs_2 H.1  hx (Nat.le_refl 1) (Nat.le_refl 6) hM' (fun n' hn' => ⟨hn', rfl, rfl, rfl, rfl⟩)) (fun n' hn' X' T' hM' hT' => by exact q_runs_0 H.2.2.1  hx hM' hT') jv_Ueq (fun h => absurd h (nIne (by omega) (by omega))) (fun n' hn' => j_wk (by omega) (by omega) (next n' sx _ L _ _ _ _ _ _ _ _ H.no (by omega)))
  · skip
    have hN := H.N12
    have hK := H.K4
    have hR := H.R8
    have Z : INV V (t0 V) N K R t := H.tz
    have P := Z
    obtain ⟨e, hx2⟩ := H.2.2.2.2.1.run hK hl
    have hx : V (20 + 2 * l) 0 = 0 ∨ V (20 + 2 * l) 0 = 1 := by rw [e]; exact hx2
    have F := P.self (fun q hq => t0_out (by omega))
    exact lc_18 hSc hM hi (by omega) (by omega) (c := 0) (r := V 132 l) (V1 := V) (V2 := t0 V) (L1 := jv_UL L 140 0 (if V (20 + 2 * l) 0 = 0 then 0 else 1)) (fun X' hM' => by rw [e1]; exact wg_runs H.1 hl hx hM' ⟨Nat.le_refl _, rfl, rfl, rfl, rfl⟩) (fun n' hn' X' T' hM' hT' => by rw [e1]; exact m_runs H.2.2.1 hl hx2 hM' hT') (t0_0) (fun _ => by rw [UL_eq, e]) (fun n' hn' => j_wk (by omega) (by omega) (next n' sx _ _ _ _ _ _ _ _ _ _ F (by omega)))

set_option maxHeartbeats 4000000 in
set_option maxRecDepth 100000 in
theorem br_19 {g : jv_G} {X : jv_X} {n : Nat} {sx : Nat → jv_S} {V : Nat → Nat → Int32} {L : Nat → Nat → Int64} {k z b M i : Nat} {xs : Nat → Int32} {v5 v6 v7 v8 : Option Value} {N K R t : Nat} (hSc : Sc g X b M xs) (hM : M ≤ 2560) (hi : i + 5 ≤ M) (H : INV V V N K R t) (ht : t + 60 ≤ 2 ^ 29) (hk : 22 ≤ k) (hz : 144 ≤ z) (next : (∀ n' sx' V' L' N' K' R' t' w5 w6 w7 w8, INV V' V' N' K' R' t' → t' ≤ t + 60 → jv_J g X I_L_law 2712 (lws g b i w5 w6 w7 w8) [] n' (SH sx') V' L' (k - 22) (z - 144))) : jv_J g X I_L_law 1248 (lws g b i v5 v6 v7 v8) [] n (SH sx) V L k z := by
  have hN := H.N12
  have hN2 := H.1.2.2.2.1
  have hK := H.K4
  have hR := H.R8
  rcases fl (xs (i + 1)) (n := K) (by omega) with hx | ⟨l, hl, e1⟩
  · exact lc_19 hSc hM hi (by omega) (by omega) (c := 1) (r := nI 0) (V1 := V) (V2 := t1 V 1) (L1 := L) (fun X' hM' => by exact we_serves_2 H.1  hx (Nat.le_refl 1) (Nat.le_refl 6) hM' (fun n' hn' => ⟨hn', rfl, rfl, rfl, rfl⟩)) (fun n' hn' X' T' hM' hT' => by exact q_serves_0 H.2.2.1  hx hM' hT') jv_Ueq (fun h => absurd h (nIne (by omega) (by omega))) (fun n' hn' => j_wk (by omega) (by omega) (next n' sx _ L _ _ _ _ _ _ _ _ H.no (by omega)))
  · skip
    rcases fl (xs (i + 2)) (n := N) (by omega) with hx | ⟨f, hf, e2⟩
    · exact lc_19 hSc hM hi (by omega) (by omega) (c := 1) (r := nI 0) (V1 := V) (V2 := t1 V 1) (L1 := L) (fun X' hM' => by rw [e1]; exact we_serves_7 H.1 hl hx (Nat.le_refl 1) (Nat.le_refl 6) hM' (fun n' hn' => ⟨hn', rfl, rfl, rfl, rfl⟩)) (fun n' hn' X' T' hM' hT' => by rw [e1]; exact q_serves_1 H.2.2.1 hl hx hM' hT') jv_Ueq (fun h => absurd h (nIne (by omega) (by omega))) (fun n' hn' => j_wk (by omega) (by omega) (next n' sx _ L _ _ _ _ _ _ _ _ H.no (by omega)))
    · skip
      have hN := H.N12
      have hK := H.K4
      have hR := H.R8
      have Z : INV V (t0 V) N K R t := H.tz
      have P := Z
      obtain ⟨hx, sv⟩ := H.sv hl hf
      have e : (if V (20 + 2 * l + 1) f = 0 then (0 : Int64) else 1) = if bz (svB V l (nI f)) = 0 then 0 else 1 := by
        rw [sv]
        by_cases h0 : V (20 + 2 * l + 1) f = 0
        · rw [if_pos h0, decide_eq_false (fun h => h h0), if_pos (by exact nI_0)]
        · rw [if_neg h0, decide_eq_true h0, if_neg (by exact nI1_ne)]
      have F := P.self (fun q hq => t0_out (by omega))
      exact lc_19 hSc hM hi (by omega) (by omega) (c := 0) (r := bz (svB V l (nI f))) (V1 := V) (V2 := t0 V) (L1 := jv_UL L 140 0 (if V (20 + 2 * l + 1) f = 0 then 0 else 1)) (fun X' hM' => by rw [e1, e2]; exact wg_serves H.1 hl hf hx hM' ⟨Nat.le_refl _, rfl, rfl, rfl, rfl⟩) (fun n' hn' X' T' hM' hT' => by rw [e1, e2]; exact m_serves H.2.2.1 hl hf hM' hT') (t0_0) (fun _ => UL_eq.trans e) (fun n' hn' => j_wk (by omega) (by omega) (next n' sx _ _ _ _ _ _ _ _ _ _ F (by omega)))

set_option maxHeartbeats 4000000 in
set_option maxRecDepth 100000 in
theorem br_20 {g : jv_G} {X : jv_X} {n : Nat} {sx : Nat → jv_S} {V : Nat → Nat → Int32} {L : Nat → Nat → Int64} {k z b M i : Nat} {xs : Nat → Int32} {v5 v6 v7 v8 : Option Value} {N K R t : Nat} (hSc : Sc g X b M xs) (hM : M ≤ 2560) (hi : i + 5 ≤ M) (H : INV V V N K R t) (ht : t + 60 ≤ 2 ^ 29) (hk : 22 ≤ k) (hz : 144 ≤ z) (next : (∀ n' sx' V' L' N' K' R' t' w5 w6 w7 w8, INV V' V' N' K' R' t' → t' ≤ t + 60 → jv_J g X I_L_law 2712 (lws g b i w5 w6 w7 w8) [] n' (SH sx') V' L' (k - 22) (z - 144))) : jv_J g X I_L_law 1323 (lws g b i v5 v6 v7 v8) [] n (SH sx) V L k z := by
  have hN := H.N12
  have hN2 := H.1.2.2.2.1
  have hK := H.K4
  have hR := H.R8
  rcases fl (xs (i + 1)) (n := N) (by omega) with hx | ⟨f, hf, e1⟩
  · exact lc_20 hSc hM hi (by omega) (by omega) (c := 1) (r := nI 0) (V1 := V) (V2 := t1 V 1) (L1 := L) (fun X' hM' => by exact we_pipe_2 H.1  hx (Nat.le_refl 1) (Nat.le_refl 6) hM' (fun n' hn' => ⟨hn', rfl, rfl, rfl, rfl⟩)) (fun n' hn' X' T' hM' hT' => by exact q_pipe_0 H.2.2.1  hx hM' hT') jv_Ueq (fun h => absurd h (nIne (by omega) (by omega))) (fun n' hn' => j_wk (by omega) (by omega) (next n' sx _ L _ _ _ _ _ _ _ _ H.no (by omega)))
  · skip
    rcases fl (xs (i + 2)) (n := N) (by omega) with hx | ⟨t2, ht2, e2⟩
    · exact lc_20 hSc hM hi (by omega) (by omega) (c := 1) (r := nI 0) (V1 := V) (V2 := t1 V 1) (L1 := L) (fun X' hM' => by rw [e1]; exact we_pipe_7 H.1 hf hx (Nat.le_refl 1) (Nat.le_refl 6) hM' (fun n' hn' => ⟨hn', rfl, rfl, rfl, rfl⟩)) (fun n' hn' X' T' hM' hT' => by rw [e1]; exact q_pipe_1 H.2.2.1 hf hx hM' hT') jv_Ueq (fun h => absurd h (nIne (by omega) (by omega))) (fun n' hn' => j_wk (by omega) (by omega) (next n' sx _ L _ _ _ _ _ _ _ _ H.no (by omega)))
    · skip
      have hN := H.N12
      have hK := H.K4
      have hR := H.R8
      have Z : INV V (t0 V) N K R t := H.tz
      have P := Z
      have e := H.pw f t2 (by omega) (by omega)
      have F := P.self (fun q hq => t0_out (by omega))
      exact lc_20 hSc hM hi (by omega) (by omega) (c := 0) (r := hoM V K f t2) (V1 := V) (V2 := t0 V) (L1 := jv_UL L 140 0 ((V (8 + f) t2 : Int32).toInt64)) (fun X' hM' => by rw [e1, e2]; exact wg_pipe H.1 hf ht2 hM' ⟨Nat.le_refl _, rfl, rfl, rfl, rfl⟩) (fun n' hn' X' T' hM' hT' => by rw [e1, e2]; exact m_pipe H.2.2.1 hf ht2 hM' hT') (t0_0) (fun _ => by rw [UL_eq, e]) (fun n' hn' => j_wk (by omega) (by omega) (next n' sx _ _ _ _ _ _ _ _ _ _ F (by omega)))

set_option maxHeartbeats 4000000 in
set_option maxRecDepth 100000 in
theorem br_21 {g : jv_G} {X : jv_X} {n : Nat} {sx : Nat → jv_S} {V : Nat → Nat → Int32} {L : Nat → Nat → Int64} {k z b M i : Nat} {xs : Nat → Int32} {v5 v6 v7 v8 : Option Value} {N K R t : Nat} (hSc : Sc g X b M xs) (hM : M ≤ 2560) (hi : i + 5 ≤ M) (H : INV V V N K R t) (ht : t + 60 ≤ 2 ^ 29) (hk : 22 ≤ k) (hz : 144 ≤ z) (next : (∀ n' sx' V' L' N' K' R' t' w5 w6 w7 w8, INV V' V' N' K' R' t' → t' ≤ t + 60 → jv_J g X I_L_law 2712 (lws g b i w5 w6 w7 w8) [] n' (SH sx') V' L' (k - 22) (z - 144))) : jv_J g X I_L_law 1391 (lws g b i v5 v6 v7 v8) [] n (SH sx) V L k z := by
  have hN := H.N12
  have hN2 := H.1.2.2.2.1
  have hK := H.K4
  have hR := H.R8
  rcases fl (xs (i + 1)) (n := N) (by omega) with hx | ⟨f, hf, e1⟩
  · exact lc_21 hSc hM hi (by omega) (by omega) (c := 1) (r := nI 0) (V1 := V) (V2 := t1 V 1) (L1 := L) (fun X' hM' => by exact we_neighbours_2 H.1  hx (Nat.le_refl 1) (Nat.le_refl 6) hM' (fun n' hn' => ⟨hn', rfl, rfl, rfl, rfl⟩)) (fun n' hn' X' T' hM' hT' => by exact q_neighbours_0 H.2.2.1  hx hM' hT') jv_Ueq (fun h => absurd h (nIne (by omega) (by omega))) (fun n' hn' => j_wk (by omega) (by omega) (next n' sx _ L _ _ _ _ _ _ _ _ H.no (by omega)))
  · skip
    have hN := H.N12
    have hK := H.K4
    have hR := H.R8
    have Z : INV V (t0 V) N K R t := H.tz
    have P := Z
    have e := congrArg nI (nei_alike Z.pw hf N 0 0 (by omega))
    have F := P.self (fun q hq => t0_out (by omega))
    exact lc_21 hSc hM hi (by omega) (by omega) (c := 0) (r := nI (arL (t0 V) K f N 0 0)) (V1 := V) (V2 := t0 V) (L1 := jv_UL L 140 0 ((nI (neighboursL V f N 0 0) : Int32).toInt64)) (fun X' hM' => by rw [e1]; exact wg_neighbours H.1 hf hM' ⟨Nat.le_refl _, rfl, rfl, rfl, rfl⟩) (fun n' hn' X' T' hM' hT' => by rw [e1]; exact m_neighbours H.2.2.1 hf hM' hT') (t0_0) (fun _ => by rw [UL_eq, e]) (fun n' hn' => j_wk (by omega) (by omega) (next n' sx _ _ _ _ _ _ _ _ _ _ F (by omega)))

set_option maxHeartbeats 4000000 in
set_option maxRecDepth 100000 in
theorem br_22 {g : jv_G} {X : jv_X} {n : Nat} {sx : Nat → jv_S} {V : Nat → Nat → Int32} {L : Nat → Nat → Int64} {k z b M i : Nat} {xs : Nat → Int32} {v5 v6 v7 v8 : Option Value} {N K R t : Nat} (hSc : Sc g X b M xs) (hM : M ≤ 2560) (hi : i + 5 ≤ M) (H : INV V V N K R t) (ht : t + 60 ≤ 2 ^ 29) (hk : 22 ≤ k) (hz : 144 ≤ z) (next : (∀ n' sx' V' L' N' K' R' t' w5 w6 w7 w8, INV V' V' N' K' R' t' → t' ≤ t + 60 → jv_J g X I_L_law 2712 (lws g b i w5 w6 w7 w8) [] n' (SH sx') V' L' (k - 22) (z - 144))) : jv_J g X I_L_law 1447 (lws g b i v5 v6 v7 v8) [] n (SH sx) V L k z := by
  have hN := H.N12
  have hN2 := H.1.2.2.2.1
  have hK := H.K4
  have hR := H.R8
  rcases fl (xs (i + 1)) (n := R) (by omega) with hx | ⟨j, hj, e1⟩
  · exact lc_22 hSc hM hi (by omega) (by omega) (c := 1) (r := nI 0) (V1 := V) (V2 := t1 V 1) (L1 := L) (fun X' hM' => by exact we_originOf_2 H.1  hx (Nat.le_refl 1) (Nat.le_refl 6) hM' (fun n' hn' => ⟨hn', rfl, rfl, rfl, rfl⟩)) (fun n' hn' X' T' hM' hT' => by rw [show t1 V 1 = t2 V 1 from jv_U_again] at hT'; exact q_originOf_0 H.2.2.1  hx hM' hT') jv_Ueq (fun h => absurd h (nIne (by omega) (by omega))) (fun n' hn' => j_wk (by omega) (by omega) (next n' sx _ L _ _ _ _ _ _ _ _ H.no (by omega)))
  · skip
    have hN := H.N12
    have hK := H.K4
    have hR := H.R8
    have Z : INV V (t0 V) N K R t := H.tz
    have P : INV V (t2 V 0) N K R t := Z
    have e := H.2.2.2.2.2.2.1 j hj
    have F := P.self (fun q hq => t0_out (by omega))
    exact lc_22 hSc hM hi (by omega) (by omega) (c := 0) (r := V 133 j) (V1 := V) (V2 := t2 V 0) (L1 := jv_UL L 140 0 ((V (43 + 10 * j) 0 : Int32).toInt64)) (fun X' hM' => by rw [e1]; exact wg_originOf H.1 hj hM' ⟨Nat.le_refl _, rfl, rfl, rfl, rfl⟩) (fun n' hn' X' T' hM' hT' => by rw [e1]; exact m_originOf H.2.2.1 hj hM' hT') (t0_0) (fun _ => by rw [UL_eq, e]) (fun n' hn' => j_wk (by omega) (by omega) (next n' sx _ _ _ _ _ _ _ _ _ _ F (by omega)))

set_option maxHeartbeats 4000000 in
set_option maxRecDepth 100000 in
theorem br_23 {g : jv_G} {X : jv_X} {n : Nat} {sx : Nat → jv_S} {V : Nat → Nat → Int32} {L : Nat → Nat → Int64} {k z b M i : Nat} {xs : Nat → Int32} {v5 v6 v7 v8 : Option Value} {N K R t : Nat} (hSc : Sc g X b M xs) (hM : M ≤ 2560) (hi : i + 5 ≤ M) (H : INV V V N K R t) (ht : t + 60 ≤ 2 ^ 29) (hk : 22 ≤ k) (hz : 144 ≤ z) (next : (∀ n' sx' V' L' N' K' R' t' w5 w6 w7 w8, INV V' V' N' K' R' t' → t' ≤ t + 60 → jv_J g X I_L_law 2712 (lws g b i w5 w6 w7 w8) [] n' (SH sx') V' L' (k - 22) (z - 144))) : jv_J g X I_L_law 1503 (lws g b i v5 v6 v7 v8) [] n (SH sx) V L k z := by
  have hN := H.N12
  have hN2 := H.1.2.2.2.1
  have hK := H.K4
  have hR := H.R8
  rcases fl (xs (i + 1)) (n := R) (by omega) with hx | ⟨j, hj, e1⟩
  · exact lc_23 hSc hM hi (by omega) (by omega) (c := 1) (r := nI 0) (V1 := V) (V2 := t1 V 1) (L1 := L) (fun X' hM' => by exact we_reachOf_2 H.1  hx (Nat.le_refl 1) (Nat.le_refl 6) hM' (fun n' hn' => ⟨hn', rfl, rfl, rfl, rfl⟩)) (fun n' hn' X' T' hM' hT' => by rw [show t1 V 1 = t2 V 1 from jv_U_again] at hT'; exact q_reachOf_0 H.2.2.1  hx hM' hT') jv_Ueq (fun h => absurd h (nIne (by omega) (by omega))) (fun n' hn' => j_wk (by omega) (by omega) (next n' sx _ L _ _ _ _ _ _ _ _ H.no (by omega)))
  · skip
    have hN := H.N12
    have hK := H.K4
    have hR := H.R8
    have Z : INV V (t0 V) N K R t := H.tz
    have P : INV V (t2 V 0) N K R t := Z
    have e := (H.sim hj).2.2.2.2
    have F := P.self (fun q hq => t0_out (by omega))
    exact lc_23 hSc hM hi (by omega) (by omega) (c := 0) (r := V 134 j) (V1 := V) (V2 := t2 V 0) (L1 := jv_UL L 140 0 ((V (43 + 10 * j) 1 : Int32).toInt64)) (fun X' hM' => by rw [e1]; exact wg_reachOf H.1 hj hM' ⟨Nat.le_refl _, rfl, rfl, rfl, rfl⟩) (fun n' hn' X' T' hM' hT' => by rw [e1]; exact m_reachOf H.2.2.1 hj hM' hT') (t0_0) (fun _ => by rw [UL_eq, e]) (fun n' hn' => j_wk (by omega) (by omega) (next n' sx _ _ _ _ _ _ _ _ _ _ F (by omega)))

set_option maxHeartbeats 4000000 in
set_option maxRecDepth 100000 in
theorem br_24 {g : jv_G} {X : jv_X} {n : Nat} {sx : Nat → jv_S} {V : Nat → Nat → Int32} {L : Nat → Nat → Int64} {k z b M i : Nat} {xs : Nat → Int32} {v5 v6 v7 v8 : Option Value} {N K R t : Nat} (hSc : Sc g X b M xs) (hM : M ≤ 2560) (hi : i + 5 ≤ M) (H : INV V V N K R t) (ht : t + 60 ≤ 2 ^ 29) (hk : 22 ≤ k) (hz : 144 ≤ z) (next : (∀ n' sx' V' L' N' K' R' t' w5 w6 w7 w8, INV V' V' N' K' R' t' → t' ≤ t + 60 → jv_J g X I_L_law 2712 (lws g b i w5 w6 w7 w8) [] n' (SH sx') V' L' (k - 22) (z - 144))) : jv_J g X I_L_law 1559 (lws g b i v5 v6 v7 v8) [] n (SH sx) V L k z := by
  have hN := H.N12
  have hN2 := H.1.2.2.2.1
  have hK := H.K4
  have hR := H.R8
  rcases fl (xs (i + 1)) (n := R) (by omega) with hx | ⟨j, hj, e1⟩
  · exact lc_24 hSc hM hi (by omega) (by omega) (c := 1) (r := nI 0) (V1 := V) (V2 := t1 V 1) (L1 := L) (fun X' hM' => by exact we_stateOf_2 H.1  hx (Nat.le_refl 1) (Nat.le_refl 6) hM' (fun n' hn' => ⟨hn', rfl, rfl, rfl, rfl⟩)) (fun n' hn' X' T' hM' hT' => by exact q_stateOf_0 H.2.2.1  hx hM' hT') jv_Ueq (fun h => absurd h (nIne (by omega) (by omega))) (fun n' hn' => j_wk (by omega) (by omega) (next n' sx _ L _ _ _ _ _ _ _ _ H.no (by omega)))
  · skip
    rcases fl (xs (i + 2)) (n := N) (by omega) with hx | ⟨f, hf, e2⟩
    · exact lc_24 hSc hM hi (by omega) (by omega) (c := 1) (r := nI 0) (V1 := V) (V2 := t1 V 1) (L1 := L) (fun X' hM' => by rw [e1]; exact we_stateOf_7 H.1 hj hx (Nat.le_refl 1) (Nat.le_refl 6) hM' (fun n' hn' => ⟨hn', rfl, rfl, rfl, rfl⟩)) (fun n' hn' X' T' hM' hT' => by rw [e1]; exact q_stateOf_1 H.2.2.1 hj hx hM' hT') jv_Ueq (fun h => absurd h (nIne (by omega) (by omega))) (fun n' hn' => j_wk (by omega) (by omega) (next n' sx _ L _ _ _ _ _ _ _ _ H.no (by omega)))
    · skip
      have hN := H.N12
      have hK := H.K4
      have hR := H.R8
      have Z : INV V (t0 V) N K R t := H.tz
      have P := Z
      have e : V (43 + 10 * j + 1) f = V 135 (0 + 12 * j + f) := by rw [Nat.add_assoc 0]; exact (H.sim hj).1 1 f (by omega) (by omega) (by omega)
      have F := P.self (fun q hq => t0_out (by omega))
      exact lc_24 hSc hM hi (by omega) (by omega) (c := 0) (r := V 135 (0 + 12 * j + f)) (V1 := V) (V2 := t0 V) (L1 := jv_UL L 140 0 ((V (43 + 10 * j + 1) f : Int32).toInt64)) (fun X' hM' => by rw [e1, e2]; exact wg_stateOf H.1 hj hf hM' ⟨Nat.le_refl _, rfl, rfl, rfl, rfl⟩) (fun n' hn' X' T' hM' hT' => by rw [e1, e2]; exact m_stateOf H.2.2.1 hj hf hM' hT') (t0_0) (fun _ => by rw [UL_eq, e]) (fun n' hn' => j_wk (by omega) (by omega) (next n' sx _ _ _ _ _ _ _ _ _ _ F (by omega)))

set_option maxHeartbeats 4000000 in
set_option maxRecDepth 100000 in
theorem br_25 {g : jv_G} {X : jv_X} {n : Nat} {sx : Nat → jv_S} {V : Nat → Nat → Int32} {L : Nat → Nat → Int64} {k z b M i : Nat} {xs : Nat → Int32} {v5 v6 v7 v8 : Option Value} {N K R t : Nat} (hSc : Sc g X b M xs) (hM : M ≤ 2560) (hi : i + 5 ≤ M) (H : INV V V N K R t) (ht : t + 60 ≤ 2 ^ 29) (hk : 22 ≤ k) (hz : 144 ≤ z) (next : (∀ n' sx' V' L' N' K' R' t' w5 w6 w7 w8, INV V' V' N' K' R' t' → t' ≤ t + 60 → jv_J g X I_L_law 2712 (lws g b i w5 w6 w7 w8) [] n' (SH sx') V' L' (k - 22) (z - 144))) : jv_J g X I_L_law 1627 (lws g b i v5 v6 v7 v8) [] n (SH sx) V L k z := by
  have hN := H.N12
  have hN2 := H.1.2.2.2.1
  have hK := H.K4
  have hR := H.R8
  rcases fl (xs (i + 1)) (n := R) (by omega) with hx | ⟨j, hj, e1⟩
  · exact lc_25 hSc hM hi (by omega) (by omega) (c := 1) (r := nI 0) (V1 := V) (V2 := t1 V 1) (L1 := L) (fun X' hM' => by exact we_heardAt_2 H.1  hx (Nat.le_refl 1) (Nat.le_refl 6) hM' (fun n' hn' => ⟨hn', rfl, rfl, rfl, rfl⟩)) (fun n' hn' X' T' hM' hT' => by exact q_heardAt_0 H.2.2.1  hx hM' hT') jv_Ueq (fun h => absurd h (nIne (by omega) (by omega))) (fun n' hn' => j_wk (by omega) (by omega) (next n' sx _ L _ _ _ _ _ _ _ _ H.no (by omega)))
  · skip
    rcases fl (xs (i + 2)) (n := N) (by omega) with hx | ⟨f, hf, e2⟩
    · exact lc_25 hSc hM hi (by omega) (by omega) (c := 1) (r := nI 0) (V1 := V) (V2 := t1 V 1) (L1 := L) (fun X' hM' => by rw [e1]; exact we_heardAt_7 H.1 hj hx (Nat.le_refl 1) (Nat.le_refl 6) hM' (fun n' hn' => ⟨hn', rfl, rfl, rfl, rfl⟩)) (fun n' hn' X' T' hM' hT' => by rw [e1]; exact q_heardAt_1 H.2.2.1 hj hx hM' hT') jv_Ueq (fun h => absurd h (nIne (by omega) (by omega))) (fun n' hn' => j_wk (by omega) (by omega) (next n' sx _ L _ _ _ _ _ _ _ _ H.no (by omega)))
    · skip
      have hN := H.N12
      have hK := H.K4
      have hR := H.R8
      have Z : INV V (t0 V) N K R t := H.tz
      have P := Z
      have e : V (43 + 10 * j + 2) f = V 135 (96 + 12 * j + f) := by rw [Nat.add_assoc 96]; exact (H.sim hj).1 2 f (by omega) (by omega) (by omega)
      have F := P.self (fun q hq => t0_out (by omega))
      exact lc_25 hSc hM hi (by omega) (by omega) (c := 0) (r := V 135 (96 + 12 * j + f)) (V1 := V) (V2 := t0 V) (L1 := jv_UL L 140 0 ((V (43 + 10 * j + 2) f : Int32).toInt64)) (fun X' hM' => by rw [e1, e2]; exact wg_heardAt H.1 hj hf hM' ⟨Nat.le_refl _, rfl, rfl, rfl, rfl⟩) (fun n' hn' X' T' hM' hT' => by rw [e1, e2]; exact m_heardAt H.2.2.1 hj hf hM' hT') (t0_0) (fun _ => by rw [UL_eq, e]) (fun n' hn' => j_wk (by omega) (by omega) (next n' sx _ _ _ _ _ _ _ _ _ _ F (by omega)))

set_option maxHeartbeats 4000000 in
set_option maxRecDepth 100000 in
theorem br_26 {g : jv_G} {X : jv_X} {n : Nat} {sx : Nat → jv_S} {V : Nat → Nat → Int32} {L : Nat → Nat → Int64} {k z b M i : Nat} {xs : Nat → Int32} {v5 v6 v7 v8 : Option Value} {N K R t : Nat} (hSc : Sc g X b M xs) (hM : M ≤ 2560) (hi : i + 5 ≤ M) (H : INV V V N K R t) (ht : t + 60 ≤ 2 ^ 29) (hk : 22 ≤ k) (hz : 144 ≤ z) (next : (∀ n' sx' V' L' N' K' R' t' w5 w6 w7 w8, INV V' V' N' K' R' t' → t' ≤ t + 60 → jv_J g X I_L_law 2712 (lws g b i w5 w6 w7 w8) [] n' (SH sx') V' L' (k - 22) (z - 144))) : jv_J g X I_L_law 1695 (lws g b i v5 v6 v7 v8) [] n (SH sx) V L k z := by
  have hN := H.N12
  have hN2 := H.1.2.2.2.1
  have hK := H.K4
  have hR := H.R8
  rcases fl (xs (i + 1)) (n := R) (by omega) with hx | ⟨j, hj, e1⟩
  · exact lc_26 hSc hM hi (by omega) (by omega) (c := 1) (r := nI 0) (V1 := V) (V2 := t1 V 1) (L1 := L) (fun X' hM' => by exact we_deniedAt_2 H.1  hx (Nat.le_refl 1) (Nat.le_refl 6) hM' (fun n' hn' => ⟨hn', rfl, rfl, rfl, rfl⟩)) (fun n' hn' X' T' hM' hT' => by exact q_deniedAt_0 H.2.2.1  hx hM' hT') jv_Ueq (fun h => absurd h (nIne (by omega) (by omega))) (fun n' hn' => j_wk (by omega) (by omega) (next n' sx _ L _ _ _ _ _ _ _ _ H.no (by omega)))
  · skip
    rcases fl (xs (i + 2)) (n := N) (by omega) with hx | ⟨f, hf, e2⟩
    · exact lc_26 hSc hM hi (by omega) (by omega) (c := 1) (r := nI 0) (V1 := V) (V2 := t1 V 1) (L1 := L) (fun X' hM' => by rw [e1]; exact we_deniedAt_7 H.1 hj hx (Nat.le_refl 1) (Nat.le_refl 6) hM' (fun n' hn' => ⟨hn', rfl, rfl, rfl, rfl⟩)) (fun n' hn' X' T' hM' hT' => by rw [e1]; exact q_deniedAt_1 H.2.2.1 hj hx hM' hT') jv_Ueq (fun h => absurd h (nIne (by omega) (by omega))) (fun n' hn' => j_wk (by omega) (by omega) (next n' sx _ L _ _ _ _ _ _ _ _ H.no (by omega)))
    · skip
      have hN := H.N12
      have hK := H.K4
      have hR := H.R8
      have Z : INV V (t0 V) N K R t := H.tz
      have P := Z
      have e : V (43 + 10 * j + 3) f = V 135 (288 + 12 * j + f) := by rw [Nat.add_assoc 288]; exact (H.sim hj).1 3 f (by omega) (by omega) (by omega)
      have F := P.self (fun q hq => t0_out (by omega))
      exact lc_26 hSc hM hi (by omega) (by omega) (c := 0) (r := V 135 (288 + 12 * j + f)) (V1 := V) (V2 := t0 V) (L1 := jv_UL L 140 0 ((V (43 + 10 * j + 3) f : Int32).toInt64)) (fun X' hM' => by rw [e1, e2]; exact wg_deniedAt H.1 hj hf hM' ⟨Nat.le_refl _, rfl, rfl, rfl, rfl⟩) (fun n' hn' X' T' hM' hT' => by rw [e1, e2]; exact m_deniedAt H.2.2.1 hj hf hM' hT') (t0_0) (fun _ => by rw [UL_eq, e]) (fun n' hn' => j_wk (by omega) (by omega) (next n' sx _ _ _ _ _ _ _ _ _ _ F (by omega)))

set_option maxHeartbeats 4000000 in
set_option maxRecDepth 100000 in
theorem br_27 {g : jv_G} {X : jv_X} {n : Nat} {sx : Nat → jv_S} {V : Nat → Nat → Int32} {L : Nat → Nat → Int64} {k z b M i : Nat} {xs : Nat → Int32} {v5 v6 v7 v8 : Option Value} {N K R t : Nat} (hSc : Sc g X b M xs) (hM : M ≤ 2560) (hi : i + 5 ≤ M) (H : INV V V N K R t) (ht : t + 60 ≤ 2 ^ 29) (hk : 22 ≤ k) (hz : 144 ≤ z) (next : (∀ n' sx' V' L' N' K' R' t' w5 w6 w7 w8, INV V' V' N' K' R' t' → t' ≤ t + 60 → jv_J g X I_L_law 2712 (lws g b i w5 w6 w7 w8) [] n' (SH sx') V' L' (k - 22) (z - 144))) : jv_J g X I_L_law 1763 (lws g b i v5 v6 v7 v8) [] n (SH sx) V L k z := by
  have hN := H.N12
  have hN2 := H.1.2.2.2.1
  have hK := H.K4
  have hR := H.R8
  rcases fl (xs (i + 1)) (n := R) (by omega) with hx | ⟨j, hj, e1⟩
  · exact lc_27 hSc hM hi (by omega) (by omega) (c := 1) (r := nI 0) (V1 := V) (V2 := t1 V 1) (L1 := L) (fun X' hM' => by exact we_pipesTo_2 H.1  hx (Nat.le_refl 1) (Nat.le_refl 6) hM' (fun n' hn' => ⟨hn', rfl, rfl, rfl, rfl⟩)) (fun n' hn' X' T' hM' hT' => by exact q_pipesTo_0 H.2.2.1  hx hM' hT') jv_Ueq (fun h => absurd h (nIne (by omega) (by omega))) (fun n' hn' => j_wk (by omega) (by omega) (next n' sx _ L _ _ _ _ _ _ _ _ H.no (by omega)))
  · skip
    rcases fl (xs (i + 2)) (n := N) (by omega) with hx | ⟨f, hf, e2⟩
    · exact lc_27 hSc hM hi (by omega) (by omega) (c := 1) (r := nI 0) (V1 := V) (V2 := t1 V 1) (L1 := L) (fun X' hM' => by rw [e1]; exact we_pipesTo_7 H.1 hj hx (Nat.le_refl 1) (Nat.le_refl 6) hM' (fun n' hn' => ⟨hn', rfl, rfl, rfl, rfl⟩)) (fun n' hn' X' T' hM' hT' => by rw [e1]; exact q_pipesTo_1 H.2.2.1 hj hx hM' hT') jv_Ueq (fun h => absurd h (nIne (by omega) (by omega))) (fun n' hn' => j_wk (by omega) (by omega) (next n' sx _ L _ _ _ _ _ _ _ _ H.no (by omega)))
    · skip
      have hN := H.N12
      have hK := H.K4
      have hR := H.R8
      have Z : INV V (t0 V) N K R t := H.tz
      have P := Z
      have e : V (43 + 10 * j + 4) f = V 135 (192 + 12 * j + f) := by rw [Nat.add_assoc 192]; exact (H.sim hj).1 4 f (by omega) (by omega) (by omega)
      have F := P.self (fun q hq => t0_out (by omega))
      exact lc_27 hSc hM hi (by omega) (by omega) (c := 0) (r := V 135 (192 + 12 * j + f)) (V1 := V) (V2 := t0 V) (L1 := jv_UL L 140 0 ((V (43 + 10 * j + 4) f : Int32).toInt64)) (fun X' hM' => by rw [e1, e2]; exact wg_pipesTo H.1 hj hf hM' ⟨Nat.le_refl _, rfl, rfl, rfl, rfl⟩) (fun n' hn' X' T' hM' hT' => by rw [e1, e2]; exact m_pipesTo H.2.2.1 hj hf hM' hT') (t0_0) (fun _ => by rw [UL_eq, e]) (fun n' hn' => j_wk (by omega) (by omega) (next n' sx _ _ _ _ _ _ _ _ _ _ F (by omega)))

set_option maxHeartbeats 4000000 in
set_option maxRecDepth 100000 in
theorem br_28 {g : jv_G} {X : jv_X} {n : Nat} {sx : Nat → jv_S} {V : Nat → Nat → Int32} {L : Nat → Nat → Int64} {k z b M i : Nat} {xs : Nat → Int32} {v5 v6 v7 v8 : Option Value} {N K R t : Nat} (hSc : Sc g X b M xs) (hM : M ≤ 2560) (hi : i + 5 ≤ M) (H : INV V V N K R t) (ht : t + 60 ≤ 2 ^ 29) (hk : 22 ≤ k) (hz : 144 ≤ z) (next : (∀ n' sx' V' L' N' K' R' t' w5 w6 w7 w8, INV V' V' N' K' R' t' → t' ≤ t + 60 → jv_J g X I_L_law 2712 (lws g b i w5 w6 w7 w8) [] n' (SH sx') V' L' (k - 22) (z - 144))) : jv_J g X I_L_law 1831 (lws g b i v5 v6 v7 v8) [] n (SH sx) V L k z := by
  have hN := H.N12
  have hN2 := H.1.2.2.2.1
  have hK := H.K4
  have hR := H.R8
  rcases fl (xs (i + 1)) (n := R) (by omega) with hx | ⟨j, hj, e1⟩
  · exact lc_28 hSc hM hi (by omega) (by omega) (c := 1) (r := nI 0) (V1 := V) (V2 := t1 V 1) (L1 := L) (fun X' hM' => by exact we_believers_2 H.1  hx (Nat.le_refl 1) (Nat.le_refl 6) hM' (fun n' hn' => ⟨hn', rfl, rfl, rfl, rfl⟩)) (fun n' hn' X' T' hM' hT' => by exact q_believers_0 H.2.2.1  hx hM' hT') jv_Ueq (fun h => absurd h (nIne (by omega) (by omega))) (fun n' hn' => j_wk (by omega) (by omega) (next n' sx _ L _ _ _ _ _ _ _ _ H.no (by omega)))
  · skip
    have hN := H.N12
    have hK := H.K4
    have hR := H.R8
    have Z : INV V (t0 V) N K R t := H.tz
    have P := Z
    have e := (Z.sim hj).heads Z.hd N 0 (nI 0) (by omega)
    have F := P.self (fun q hq => t0_out (by omega))
    exact lc_28 hSc hM hi (by omega) (by omega) (c := 0) (r := beL (t0 V) j N 0 (nI 0)) (V1 := V) (V2 := t0 V) (L1 := jv_UL L 140 0 ((hbL V (43 + 10 * j) N 0 (nI 0) : Int32).toInt64)) (fun X' hM' => by rw [e1]; exact wg_believers H.1 hj hM' ⟨Nat.le_refl _, rfl, rfl, rfl, rfl⟩) (fun n' hn' X' T' hM' hT' => by rw [e1]; exact m_believers H.2.2.1 hj hM' hT') (t0_0) (fun _ => by rw [UL_eq, e]) (fun n' hn' => j_wk (by omega) (by omega) (next n' sx _ _ _ _ _ _ _ _ _ _ F (by omega)))

set_option maxHeartbeats 4000000 in
set_option maxRecDepth 100000 in
theorem br_29 {g : jv_G} {X : jv_X} {n : Nat} {sx : Nat → jv_S} {V : Nat → Nat → Int32} {L : Nat → Nat → Int64} {k z b M i : Nat} {xs : Nat → Int32} {v5 v6 v7 v8 : Option Value} {N K R t : Nat} (hSc : Sc g X b M xs) (hM : M ≤ 2560) (hi : i + 5 ≤ M) (H : INV V V N K R t) (ht : t + 60 ≤ 2 ^ 29) (hk : 22 ≤ k) (hz : 144 ≤ z) (next : (∀ n' sx' V' L' N' K' R' t' w5 w6 w7 w8, INV V' V' N' K' R' t' → t' ≤ t + 60 → jv_J g X I_L_law 2712 (lws g b i w5 w6 w7 w8) [] n' (SH sx') V' L' (k - 22) (z - 144))) : jv_J g X I_L_law 1887 (lws g b i v5 v6 v7 v8) [] n (SH sx) V L k z := by
  have hN := H.N12
  have hN2 := H.1.2.2.2.1
  have hK := H.K4
  have hR := H.R8
  rcases fl (xs (i + 1)) (n := R) (by omega) with hx | ⟨j, hj, e1⟩
  · exact lc_29 hSc hM hi (by omega) (by omega) (c := 1) (r := nI 0) (V1 := V) (V2 := t1 V 1) (L1 := L) (fun X' hM' => by exact we_reached_2 H.1  hx (Nat.le_refl 1) (Nat.le_refl 6) hM' (fun n' hn' => ⟨hn', rfl, rfl, rfl, rfl⟩)) (fun n' hn' X' T' hM' hT' => by exact q_reached_0 H.2.2.1  hx hM' hT') jv_Ueq (fun h => absurd h (nIne (by omega) (by omega))) (fun n' hn' => j_wk (by omega) (by omega) (next n' sx _ L _ _ _ _ _ _ _ _ H.no (by omega)))
  · skip
    have hN := H.N12
    have hK := H.K4
    have hR := H.R8
    have Z : INV V (t0 V) N K R t := H.tz
    have P := Z
    have e := congrArg nI ((Z.sim hj).heard N 0 0 (by omega))
    have F := P.self (fun q hq => t0_out (by omega))
    exact lc_29 hSc hM hi (by omega) (by omega) (c := 0) (r := nI (hdL (t0 V) j N 0 0)) (V1 := V) (V2 := t0 V) (L1 := jv_UL L 140 0 ((nI (reachedL V j N 0 0) : Int32).toInt64)) (fun X' hM' => by rw [e1]; exact wg_reached H.1 hj hM' ⟨Nat.le_refl _, rfl, rfl, rfl, rfl⟩) (fun n' hn' X' T' hM' hT' => by rw [e1]; exact m_reached H.2.2.1 hj hM' hT') (t0_0) (fun _ => by rw [UL_eq, e]) (fun n' hn' => j_wk (by omega) (by omega) (next n' sx _ _ _ _ _ _ _ _ _ _ F (by omega)))

set_option maxHeartbeats 4000000 in
set_option maxRecDepth 100000 in
theorem br_30 {g : jv_G} {X : jv_X} {n : Nat} {sx : Nat → jv_S} {V : Nat → Nat → Int32} {L : Nat → Nat → Int64} {k z b M i : Nat} {xs : Nat → Int32} {v5 v6 v7 v8 : Option Value} {N K R t : Nat} (hSc : Sc g X b M xs) (hM : M ≤ 2560) (hi : i + 5 ≤ M) (H : INV V V N K R t) (ht : t + 60 ≤ 2 ^ 29) (hk : 22 ≤ k) (hz : 144 ≤ z) (next : (∀ n' sx' V' L' N' K' R' t' w5 w6 w7 w8, INV V' V' N' K' R' t' → t' ≤ t + 60 → jv_J g X I_L_law 2712 (lws g b i w5 w6 w7 w8) [] n' (SH sx') V' L' (k - 22) (z - 144))) : jv_J g X I_L_law 1943 (lws g b i v5 v6 v7 v8) [] n (SH sx) V L k z := by
  have hN := H.N12
  have hN2 := H.1.2.2.2.1
  have hK := H.K4
  have hR := H.R8
  rcases fl (xs (i + 1)) (n := R) (by omega) with hx | ⟨j, hj, e1⟩
  · exact lc_30 hSc hM hi (by omega) (by omega) (c := 1) (r := nI 0) (V1 := V) (V2 := t1 V 1) (L1 := L) (fun X' hM' => by exact we_underWay_2 H.1  hx (Nat.le_refl 1) (Nat.le_refl 6) hM' (fun n' hn' => ⟨hn', rfl, rfl, rfl, rfl⟩)) (fun n' hn' X' T' hM' hT' => by exact q_underWay_0 H.2.2.1  hx hM' hT') jv_Ueq (fun h => absurd h (nIne (by omega) (by omega))) (fun n' hn' => j_wk (by omega) (by omega) (next n' sx _ L _ _ _ _ _ _ _ _ H.no (by omega)))
  · skip
    have hN := H.N12
    have hK := H.K4
    have hR := H.R8
    have Z : INV V (t0 V) N K R t := H.tz
    have P := Z
    have e := congrArg nI ((Z.sim hj).under N 0 0 (by omega))
    have F := P.self (fun q hq => t0_out (by omega))
    exact lc_30 hSc hM hi (by omega) (by omega) (c := 0) (r := nI (owL (t0 V) j N 0 0)) (V1 := V) (V2 := t0 V) (L1 := jv_UL L 140 0 ((nI (underWayL V j N 0 0) : Int32).toInt64)) (fun X' hM' => by rw [e1]; exact wg_underWay H.1 hj hM' ⟨Nat.le_refl _, rfl, rfl, rfl, rfl⟩) (fun n' hn' X' T' hM' hT' => by rw [e1]; exact m_underWay H.2.2.1 hj hM' hT') (t0_0) (fun _ => by rw [UL_eq, e]) (fun n' hn' => j_wk (by omega) (by omega) (next n' sx _ _ _ _ _ _ _ _ _ _ F (by omega)))

set_option maxHeartbeats 4000000 in
set_option maxRecDepth 100000 in
theorem br_31 {g : jv_G} {X : jv_X} {n : Nat} {sx : Nat → jv_S} {V : Nat → Nat → Int32} {L : Nat → Nat → Int64} {k z b M i : Nat} {xs : Nat → Int32} {v5 v6 v7 v8 : Option Value} {N K R t : Nat} (hSc : Sc g X b M xs) (hM : M ≤ 2560) (hi : i + 5 ≤ M) (H : INV V V N K R t) (ht : t + 60 ≤ 2 ^ 29) (hk : 22 ≤ k) (hz : 144 ≤ z) (next : (∀ n' sx' V' L' N' K' R' t' w5 w6 w7 w8, INV V' V' N' K' R' t' → t' ≤ t + 60 → jv_J g X I_L_law 2712 (lws g b i w5 w6 w7 w8) [] n' (SH sx') V' L' (k - 22) (z - 144))) : jv_J g X I_L_law 1999 (lws g b i v5 v6 v7 v8) [] n (SH sx) V L k z := by
  have hN := H.N12
  have hN2 := H.1.2.2.2.1
  have hK := H.K4
  have hR := H.R8
  rcases fl (xs (i + 1)) (n := N) (by omega) with hx | ⟨f, hf, e1⟩
  · exact lc_31 hSc hM hi (by omega) (by omega) (c := 1) (r := nI 0) (V1 := V) (V2 := t1 V 1) (L1 := L) (fun X' hM' => by exact we_quickest_2 H.1  hx (Nat.le_refl 1) (Nat.le_refl 6) hM' (fun n' hn' => ⟨hn', rfl, rfl, rfl, rfl⟩)) (fun n' hn' X' T' hM' hT' => by exact q_quickest_0 H.2.2.1  hx hM' hT') jv_Ueq (fun h => absurd h (nIne (by omega) (by omega))) (fun n' hn' => j_wk (by omega) (by omega) (next n' sx _ L _ _ _ _ _ _ _ _ H.no (by omega)))
  · skip
    rcases fl (xs (i + 2)) (n := N) (by omega) with hx | ⟨t2, ht2, e2⟩
    · exact lc_31 hSc hM hi (by omega) (by omega) (c := 1) (r := nI 0) (V1 := V) (V2 := t1 V 1) (L1 := L) (fun X' hM' => by rw [e1]; exact we_quickest_7 H.1 hf hx (Nat.le_refl 1) (Nat.le_refl 6) hM' (fun n' hn' => ⟨hn', rfl, rfl, rfl, rfl⟩)) (fun n' hn' X' T' hM' hT' => by rw [e1]; exact q_quickest_1 H.2.2.1 hf hx hM' hT') jv_Ueq (fun h => absurd h (nIne (by omega) (by omega))) (fun n' hn' => j_wk (by omega) (by omega) (next n' sx _ L _ _ _ _ _ _ _ _ H.no (by omega)))
    · skip
      have hN := H.N12
      have hK := H.K4
      have hR := H.R8
      have ho : ∀ q, 123 ≤ q → (fndC V N f) q = V q := fun q hq => fndC_out (by omega)
      generalize hV1 : (fndC V N f : Nat → Nat → Int32) = V1 at ho
      have S : INV V V1 N K R t := H.start ho
      have Z : INV V (t0 V1) N K R t := S.tz
      have Y := ways_alike Z.wp hN hf
      have P : INV (fndC V N f) (wayM (t0 V1) N K f) N K R t := Z.way
      have e := (Y.2 t2 ht2).1
      rw [hV1] at P
      have o2 : ∀ q, q ≤ 123 → (wayM (t0 V1) N K f) q = t0 V1 q := fun q hq => wayM_out (by omega)
      have F := P.self (fun q hq => (o2 q (by omega)).trans (t0_out (by omega)))
      exact lc_31 hSc hM hi (by omega) (by omega) (c := 0) (r := wayM (t0 V1) N K f 137 t2) (V1 := V1) (V2 := wayM (t0 V1) N K f) (L1 := jv_UL L 140 0 ((fndC V N f 29 t2 : Int32).toInt64)) (fun X' hM' => by rw [e1, e2]; exact wg_quickest H.1 hf ht2 hM' ⟨Nat.le_refl _, rfl, rfl, hV1, rfl⟩) (fun n' hn' X' T' hM' hT' => by rw [e1, e2]; exact m_quickest S.2.2.1 hf ht2 hM' hT') ((congrFun (o2 123 (by omega)) 0).trans t0_0) (fun _ => by rw [UL_eq, e]) (fun n' hn' => j_wk (by omega) (by omega) (next n' sx _ _ _ _ _ _ _ _ _ _ F (by omega)))

set_option maxHeartbeats 4000000 in
set_option maxRecDepth 100000 in
theorem br_32 {g : jv_G} {X : jv_X} {n : Nat} {sx : Nat → jv_S} {V : Nat → Nat → Int32} {L : Nat → Nat → Int64} {k z b M i : Nat} {xs : Nat → Int32} {v5 v6 v7 v8 : Option Value} {N K R t : Nat} (hSc : Sc g X b M xs) (hM : M ≤ 2560) (hi : i + 5 ≤ M) (H : INV V V N K R t) (ht : t + 60 ≤ 2 ^ 29) (hk : 22 ≤ k) (hz : 144 ≤ z) (next : (∀ n' sx' V' L' N' K' R' t' w5 w6 w7 w8, INV V' V' N' K' R' t' → t' ≤ t + 60 → jv_J g X I_L_law 2712 (lws g b i w5 w6 w7 w8) [] n' (SH sx') V' L' (k - 22) (z - 144))) : jv_J g X I_L_law 2067 (lws g b i v5 v6 v7 v8) [] n (SH sx) V L k z := by
  have hN := H.N12
  have hN2 := H.1.2.2.2.1
  have hK := H.K4
  have hR := H.R8
  rcases fl (xs (i + 1)) (n := N) (by omega) with hx | ⟨f, hf, e1⟩
  · exact lc_32 hSc hM hi (by omega) (by omega) (c := 1) (r := nI 0) (V1 := V) (V2 := t1 V 1) (L1 := L) (fun X' hM' => by exact we_pipesBetween_2 H.1  hx (Nat.le_refl 1) (Nat.le_refl 6) hM' (fun n' hn' => ⟨hn', rfl, rfl, rfl, rfl⟩)) (fun n' hn' X' T' hM' hT' => by exact q_pipesBetween_0 H.2.2.1  hx hM' hT') jv_Ueq (fun h => absurd h (nIne (by omega) (by omega))) (fun n' hn' => j_wk (by omega) (by omega) (next n' sx _ L _ _ _ _ _ _ _ _ H.no (by omega)))
  · skip
    rcases fl (xs (i + 2)) (n := N) (by omega) with hx | ⟨t2, ht2, e2⟩
    · exact lc_32 hSc hM hi (by omega) (by omega) (c := 1) (r := nI 0) (V1 := V) (V2 := t1 V 1) (L1 := L) (fun X' hM' => by rw [e1]; exact we_pipesBetween_7 H.1 hf hx (Nat.le_refl 1) (Nat.le_refl 6) hM' (fun n' hn' => ⟨hn', rfl, rfl, rfl, rfl⟩)) (fun n' hn' X' T' hM' hT' => by rw [e1]; exact q_pipesBetween_1 H.2.2.1 hf hx hM' hT') jv_Ueq (fun h => absurd h (nIne (by omega) (by omega))) (fun n' hn' => j_wk (by omega) (by omega) (next n' sx _ L _ _ _ _ _ _ _ _ H.no (by omega)))
    · skip
      have hN := H.N12
      have hK := H.K4
      have hR := H.R8
      have ho : ∀ q, 123 ≤ q → (fndC V N f) q = V q := fun q hq => fndC_out (by omega)
      generalize hV1 : (fndC V N f : Nat → Nat → Int32) = V1 at ho
      have S : INV V V1 N K R t := H.start ho
      have Z : INV V (t0 V1) N K R t := S.tz
      have Y := ways_alike Z.wp hN hf
      have P : INV (fndC V N f) (wayM (t0 V1) N K f) N K R t := Z.way
      have e := pb_alike Y ht2
      rw [hV1] at P
      have o2 : ∀ q, q ≤ 123 → (wayM (t0 V1) N K f) q = t0 V1 q := fun q hq => wayM_out (by omega)
      have F := P.self (fun q hq => (o2 q (by omega)).trans (t0_out (by omega)))
      exact lc_32 hSc hM hi (by omega) (by omega) (c := 0) (r := pbM (wayM (t0 V1) N K f 137 t2) (wayM (t0 V1) N K f 138 t2)) (V1 := V1) (V2 := wayM (t0 V1) N K f) (L1 := jv_UL L 140 0 ((fndC V N f 30 t2 : Int32).toInt64)) (fun X' hM' => by rw [e1, e2]; exact wg_pipesBetween H.1 hf ht2 hM' ⟨Nat.le_refl _, rfl, rfl, hV1, rfl⟩) (fun n' hn' X' T' hM' hT' => by rw [e1, e2]; exact m_pipesBetween S.2.2.1 hf ht2 hM' hT') ((congrFun (o2 123 (by omega)) 0).trans t0_0) (fun _ => by rw [UL_eq, e]) (fun n' hn' => j_wk (by omega) (by omega) (next n' sx _ _ _ _ _ _ _ _ _ _ F (by omega)))

set_option maxHeartbeats 4000000 in
set_option maxRecDepth 100000 in
theorem br_33 {g : jv_G} {X : jv_X} {n : Nat} {sx : Nat → jv_S} {V : Nat → Nat → Int32} {L : Nat → Nat → Int64} {k z b M i : Nat} {xs : Nat → Int32} {v5 v6 v7 v8 : Option Value} {N K R t : Nat} (hSc : Sc g X b M xs) (hM : M ≤ 2560) (hi : i + 5 ≤ M) (H : INV V V N K R t) (ht : t + 60 ≤ 2 ^ 29) (hk : 22 ≤ k) (hz : 144 ≤ z) (next : (∀ n' sx' V' L' N' K' R' t' w5 w6 w7 w8, INV V' V' N' K' R' t' → t' ≤ t + 60 → jv_J g X I_L_law 2712 (lws g b i w5 w6 w7 w8) [] n' (SH sx') V' L' (k - 22) (z - 144))) : jv_J g X I_L_law 2135 (lws g b i v5 v6 v7 v8) [] n (SH sx) V L k z := by
  have hN := H.N12
  have hN2 := H.1.2.2.2.1
  have hK := H.K4
  have hR := H.R8
  rcases fl (xs (i + 1)) (n := N) (by omega) with hx | ⟨f, hf, e1⟩
  · exact lc_33 hSc hM hi (by omega) (by omega) (c := 1) (r := nI 0) (V1 := V) (V2 := t1 V 1) (L1 := L) (fun X' hM' => by exact we_farthestFrom_2 H.1  hx (Nat.le_refl 1) (Nat.le_refl 6) hM' (fun n' hn' => ⟨hn', rfl, rfl, rfl, rfl⟩)) (fun n' hn' X' T' hM' hT' => by exact q_farthestFrom_0 H.2.2.1  hx hM' hT') jv_Ueq (fun h => absurd h (nIne (by omega) (by omega))) (fun n' hn' => j_wk (by omega) (by omega) (next n' sx _ L _ _ _ _ _ _ _ _ H.no (by omega)))
  · skip
    have hN := H.N12
    have hK := H.K4
    have hR := H.R8
    have ho : ∀ q, 123 ≤ q → (fndC V N f) q = V q := fun q hq => fndC_out (by omega)
    generalize hV1 : (fndC V N f : Nat → Nat → Int32) = V1 at ho
    have S : INV V V1 N K R t := H.start ho
    have Z : INV V (t0 V1) N K R t := S.tz
    have Y := ways_alike Z.wp hN hf
    have P : INV (fndC V N f) (wayM (t0 V1) N K f) N K R t := Z.way
    have e := congrArg nI (far_alike Y hf N 0 f (by omega) hf (Or.inl rfl))
    rw [hV1] at P
    have o2 : ∀ q, q ≤ 123 → (wayM (t0 V1) N K f) q = t0 V1 q := fun q hq => wayM_out (by omega)
    have F := P.self (fun q hq => (o2 q (by omega)).trans (t0_out (by omega)))
    exact lc_33 hSc hM hi (by omega) (by omega) (c := 0) (r := nI (fmL (wayM (t0 V1) N K f) N 0 f)) (V1 := V1) (V2 := wayM (t0 V1) N K f) (L1 := jv_UL L 140 0 ((nI (farL (fndC V N f) N 0 f) : Int32).toInt64)) (fun X' hM' => by rw [e1]; exact wg_farthestFrom H.1 hf hM' ⟨Nat.le_refl _, rfl, rfl, hV1, rfl⟩) (fun n' hn' X' T' hM' hT' => by rw [e1]; exact m_farthestFrom S.2.2.1 hf hM' hT') ((congrFun (o2 123 (by omega)) 0).trans t0_0) (fun _ => by rw [UL_eq, e]) (fun n' hn' => j_wk (by omega) (by omega) (next n' sx _ _ _ _ _ _ _ _ _ _ F (by omega)))

set_option maxHeartbeats 4000000 in
set_option maxRecDepth 100000 in
theorem br_36 {g : jv_G} {X : jv_X} {n : Nat} {sx : Nat → jv_S} {V : Nat → Nat → Int32} {L : Nat → Nat → Int64} {k z b M i : Nat} {xs : Nat → Int32} {v5 v6 v7 v8 : Option Value} {N K R t : Nat} (hSc : Sc g X b M xs) (hM : M ≤ 2560) (hi : i + 5 ≤ M) (H : INV V V N K R t) (ht : t + 60 ≤ 2 ^ 29) (hk : 22 ≤ k) (hz : 144 ≤ z) (next : (∀ n' sx' V' L' N' K' R' t' w5 w6 w7 w8, INV V' V' N' K' R' t' → t' ≤ t + 60 → jv_J g X I_L_law 2712 (lws g b i w5 w6 w7 w8) [] n' (SH sx') V' L' (k - 22) (z - 144))) : jv_J g X I_L_law 2217 (lws g b i v5 v6 v7 v8) [] n (SH sx) V L k z := by
  have hN := H.N12
  have hN2 := H.1.2.2.2.1
  have hK := H.K4
  have hR := H.R8
  rcases fl (xs (i + 1)) (n := K) (by omega) with hx | ⟨l, hl, e1⟩
  · exact lc_36 hSc hM hi (by omega) (by omega) (c := 1) (r := nI 0) (V1 := V) (V2 := t1 V 1) (L1 := L) (fun X' hM' => by exact we_gainBy_2 H.1  hx (Nat.le_refl 1) (Nat.le_refl 6) hM' (fun n' hn' => ⟨hn', rfl, rfl, rfl, rfl⟩)) (fun n' hn' X' T' hM' hT' => by exact q_gainBy_0 H.2.2.1  hx hM' hT') jv_Ueq (fun h => absurd h (nIne (by omega) (by omega))) (fun n' hn' => j_wk (by omega) (by omega) (next n' sx _ L _ _ _ _ _ _ _ _ H.no (by omega)))
  · skip
    rcases fl (xs (i + 2)) (n := N) (by omega) with hx | ⟨f, hf, e2⟩
    · exact lc_36 hSc hM hi (by omega) (by omega) (c := 1) (r := nI 0) (V1 := V) (V2 := t1 V 1) (L1 := L) (fun X' hM' => by rw [e1]; exact we_gainBy_7 H.1 hl hx (Nat.le_refl 1) (Nat.le_refl 6) hM' (fun n' hn' => ⟨hn', rfl, rfl, rfl, rfl⟩)) (fun n' hn' X' T' hM' hT' => by rw [e1]; exact q_gainBy_1 H.2.2.1 hl hx hM' hT') jv_Ueq (fun h => absurd h (nIne (by omega) (by omega))) (fun n' hn' => j_wk (by omega) (by omega) (next n' sx _ L _ _ _ _ _ _ _ _ H.no (by omega)))
    · skip
      rcases fl (xs (i + 3)) (n := N) (by omega) with hx | ⟨t2, ht2, e3⟩
      · exact lc_36 hSc hM hi (by omega) (by omega) (c := 1) (r := nI 0) (V1 := V) (V2 := t1 V 1) (L1 := L) (fun X' hM' => by rw [e1, e2]; exact we_gainBy_12 H.1 hl hf hx (Nat.le_refl 1) (Nat.le_refl 6) hM' (fun n' hn' => ⟨hn', rfl, rfl, rfl, rfl⟩)) (fun n' hn' X' T' hM' hT' => by rw [e1, e2]; exact q_gainBy_2 H.2.2.1 hl hf hx hM' hT') jv_Ueq (fun h => absurd h (nIne (by omega) (by omega))) (fun n' hn' => j_wk (by omega) (by omega) (next n' sx _ L _ _ _ _ _ _ _ _ H.no (by omega)))
      · skip
        have hN := H.N12
        have hK := H.K4
        have hR := H.R8
        have ho : ∀ q, 123 ≤ q → (gbV V N K l f) q = V q := fun q hq => gbV_hi hq hN (by omega)
        generalize hV1 : (gbV V N K l f : Nat → Nat → Int32) = V1 at ho
        have S : INV V V1 N K R t := H.start ho
        have Z : INV V (t0 V1) N K R t := S.tz
        obtain ⟨P, e⟩ := S.gain (c := t2) hl hf ht2
        obtain ⟨er, hxr⟩ := H.2.2.2.2.1.run hK hl
        have hx : V (20 + 2 * l) 0 = 0 ∨ V (20 + 2 * l) 0 = 1 := by rw [er]; exact hxr
        have hx2 : V1 132 l = 0 ∨ V1 132 l = 1 := by rw [ho 132 (by omega)]; exact hxr
        rw [hV1] at P
        have o2 : ∀ q, q ≤ 123 → (gm2 V1 N K l f) q = t0 V1 q := fun q hq => gm2_lo (by omega)
        have F := P.self (fun q hq => (o2 q (by omega)).trans (t0_out (by omega)))
        exact lc_36 hSc hM hi (by omega) (by omega) (c := 0) (r := gbR (wwM (t0 V1) N K l f (nI 1) 137 t2) (wwM (gm1 V1 N K l f) N K l f (nI 0) 137 t2)) (V1 := V1) (V2 := gm2 V1 N K l f) (L1 := jv_UL L 140 0 ((gbR (gb1 V N K l f 29 t2) (gb2 V N K l f 29 t2) : Int32).toInt64)) (fun X' hM' => by rw [e1, e2, e3]; exact wg_gainBy H.1 hl hf ht2 hx hM' ⟨Nat.le_refl _, rfl, rfl, hV1, rfl⟩) (fun n' hn' X' T' hM' hT' => by rw [e1, e2, e3]; exact m_gainBy S.2.2.1 hl hf ht2 hx2 hM' hT') ((congrFun (o2 123 (by omega)) 0).trans t0_0) (fun _ => by rw [UL_eq, e]) (fun n' hn' => j_wk (by omega) (by omega) (next n' sx _ _ _ _ _ _ _ _ _ _ F (by omega)))

set_option maxHeartbeats 4000000 in
set_option maxRecDepth 100000 in
theorem br_37 {g : jv_G} {X : jv_X} {n : Nat} {sx : Nat → jv_S} {V : Nat → Nat → Int32} {L : Nat → Nat → Int64} {k z b M i : Nat} {xs : Nat → Int32} {v5 v6 v7 v8 : Option Value} {N K R t : Nat} (hSc : Sc g X b M xs) (hM : M ≤ 2560) (hi : i + 5 ≤ M) (H : INV V V N K R t) (ht : t + 60 ≤ 2 ^ 29) (hk : 22 ≤ k) (hz : 144 ≤ z) (next : (∀ n' sx' V' L' N' K' R' t' w5 w6 w7 w8, INV V' V' N' K' R' t' → t' ≤ t + 60 → jv_J g X I_L_law 2712 (lws g b i w5 w6 w7 w8) [] n' (SH sx') V' L' (k - 22) (z - 144))) : jv_J g X I_L_law 2297 (lws g b i v5 v6 v7 v8) [] n (SH sx) V L k z := by
  have hN := H.N12
  have hN2 := H.1.2.2.2.1
  have hK := H.K4
  have hR := H.R8
  rcases fl (xs (i + 1)) (n := R) (by omega) with hx | ⟨j, hj, e1⟩
  · exact lc_37 hSc hM hi (by omega) (by omega) (c := 1) (r := nI 0) (V1 := V) (V2 := t1 V 1) (L1 := L) (fun X' hM' => by exact we_wouldHear_2 H.1  hx (Nat.le_refl 1) (Nat.le_refl 6) hM' (fun n' hn' => ⟨hn', rfl, rfl, rfl, rfl⟩)) (fun n' hn' X' T' hM' hT' => by exact q_wouldHear_0 H.2.2.1  hx hM' hT') jv_Ueq (fun h => absurd h (nIne (by omega) (by omega))) (fun n' hn' => j_wk (by omega) (by omega) (next n' sx _ L _ _ _ _ _ _ _ _ H.no (by omega)))
  · skip
    rcases fl (xs (i + 2)) (n := N) (by omega) with hx | ⟨f, hf, e2⟩
    · exact lc_37 hSc hM hi (by omega) (by omega) (c := 1) (r := nI 0) (V1 := V) (V2 := t1 V 1) (L1 := L) (fun X' hM' => by rw [e1]; exact we_wouldHear_7 H.1 hj hx (Nat.le_refl 1) (Nat.le_refl 6) hM' (fun n' hn' => ⟨hn', rfl, rfl, rfl, rfl⟩)) (fun n' hn' X' T' hM' hT' => by rw [e1]; exact q_wouldHear_1 H.2.2.1 hj hx hM' hT') jv_Ueq (fun h => absurd h (nIne (by omega) (by omega))) (fun n' hn' => j_wk (by omega) (by omega) (next n' sx _ L _ _ _ _ _ _ _ _ H.no (by omega)))
    · skip
      have hN := H.N12
      have hK := H.K4
      have hR := H.R8
      have ho : ∀ q, 123 ≤ q → (triV V N j) q = V q := fun q hq => triV_out (by omega)
      generalize hV1 : (triV V N j : Nat → Nat → Int32) = V1 at ho
      have S : INV V V1 N K R t := H.start ho
      have Z : INV V (t0 V1) N K R t := S.tz
      obtain ⟨P, -, e0⟩ := Z.tri (by omega) hj
      have e := e0 f (by omega)
      rw [hV1] at P
      have o2 : ∀ q, q ≤ 123 → (bbM (ieM (t0 V1) N K j)) q = t0 V1 q := fun q hq => by rw [bbM_out (by omega), ieM_out (by omega)]
      have F := P.self (fun q hq => (o2 q (by omega)).trans (t0_out (by omega)))
      exact lc_37 hSc hM hi (by omega) (by omega) (c := 0) (r := ieM (t0 V1) N K j 135 (96 + 12 * j + f)) (V1 := V1) (V2 := bbM (ieM (t0 V1) N K j)) (L1 := jv_UL L 140 0 ((triV V N j 35 f : Int32).toInt64)) (fun X' hM' => by rw [e1, e2]; exact wg_wouldHear H.1 hj hf hM' ⟨Nat.le_refl _, rfl, rfl, hV1, rfl⟩) (fun n' hn' X' T' hM' hT' => by rw [e1, e2]; exact m_wouldHear S.2.2.1 hj hf hM' hT') ((congrFun (o2 123 (by omega)) 0).trans t0_0) (fun _ => by rw [UL_eq, e]) (fun n' hn' => j_wk (by omega) (by omega) (next n' sx _ _ _ _ _ _ _ _ _ _ F (by omega)))

set_option maxHeartbeats 4000000 in
set_option maxRecDepth 100000 in
theorem br_38 {g : jv_G} {X : jv_X} {n : Nat} {sx : Nat → jv_S} {V : Nat → Nat → Int32} {L : Nat → Nat → Int64} {k z b M i : Nat} {xs : Nat → Int32} {v5 v6 v7 v8 : Option Value} {N K R t : Nat} (hSc : Sc g X b M xs) (hM : M ≤ 2560) (hi : i + 5 ≤ M) (H : INV V V N K R t) (ht : t + 60 ≤ 2 ^ 29) (hk : 22 ≤ k) (hz : 144 ≤ z) (next : (∀ n' sx' V' L' N' K' R' t' w5 w6 w7 w8, INV V' V' N' K' R' t' → t' ≤ t + 60 → jv_J g X I_L_law 2712 (lws g b i w5 w6 w7 w8) [] n' (SH sx') V' L' (k - 22) (z - 144))) : jv_J g X I_L_law 2365 (lws g b i v5 v6 v7 v8) [] n (SH sx) V L k z := by
  have hN := H.N12
  have hN2 := H.1.2.2.2.1
  have hK := H.K4
  have hR := H.R8
  rcases fl (xs (i + 1)) (n := R) (by omega) with hx | ⟨j, hj, e1⟩
  · exact lc_38 hSc hM hi (by omega) (by omega) (c := 1) (r := nI 0) (V1 := V) (V2 := t1 V 1) (L1 := L) (fun X' hM' => by exact we_believersInTheEnd_2 H.1  hx (Nat.le_refl 1) (Nat.le_refl 6) hM' (fun n' hn' => ⟨hn', rfl, rfl, rfl, rfl⟩)) (fun n' hn' X' T' hM' hT' => by exact q_believersInTheEnd_0 H.2.2.1  hx hM' hT') jv_Ueq (fun h => absurd h (nIne (by omega) (by omega))) (fun n' hn' => j_wk (by omega) (by omega) (next n' sx _ L _ _ _ _ _ _ _ _ H.no (by omega)))
  · skip
    have hN := H.N12
    have hK := H.K4
    have hR := H.R8
    have ho : ∀ q, 123 ≤ q → (triV V N j) q = V q := fun q hq => triV_out (by omega)
    generalize hV1 : (triV V N j : Nat → Nat → Int32) = V1 at ho
    have S : INV V V1 N K R t := H.start ho
    have Z : INV V (t0 V1) N K R t := S.tz
    obtain ⟨P, e, -⟩ := Z.tri (by omega) hj
    rw [hV1] at P
    have o2 : ∀ q, q ≤ 123 → (bbM (ieM (t0 V1) N K j)) q = t0 V1 q := fun q hq => by rw [bbM_out (by omega), ieM_out (by omega)]
    have F := P.self (fun q hq => (o2 q (by omega)).trans (t0_out (by omega)))
    exact lc_38 hSc hM hi (by omega) (by omega) (c := 0) (r := beL (ieM (t0 V1) N K j) j N 0 (nI 0)) (V1 := V1) (V2 := bbM (ieM (t0 V1) N K j)) (L1 := jv_UL L 140 0 ((hbL (triV V N j) 33 N 0 (nI 0) : Int32).toInt64)) (fun X' hM' => by rw [e1]; exact wg_believersInTheEnd H.1 hj hM' ⟨Nat.le_refl _, rfl, rfl, hV1, rfl⟩) (fun n' hn' X' T' hM' hT' => by rw [e1]; exact m_believersInTheEnd S.2.2.1 hj hM' hT') ((congrFun (o2 123 (by omega)) 0).trans t0_0) (fun _ => by rw [UL_eq, e]) (fun n' hn' => j_wk (by omega) (by omega) (next n' sx _ _ _ _ _ _ _ _ _ _ F (by omega)))

set_option maxHeartbeats 4000000 in
set_option maxRecDepth 100000 in
theorem br_39 {g : jv_G} {X : jv_X} {n : Nat} {sx : Nat → jv_S} {V : Nat → Nat → Int32} {L : Nat → Nat → Int64} {k z b M i : Nat} {xs : Nat → Int32} {v5 v6 v7 v8 : Option Value} {N K R t : Nat} (hSc : Sc g X b M xs) (hM : M ≤ 2560) (hi : i + 5 ≤ M) (H : INV V V N K R t) (ht : t + 60 ≤ 2 ^ 29) (hk : 22 ≤ k) (hz : 144 ≤ z) (next : (∀ n' sx' V' L' N' K' R' t' w5 w6 w7 w8, INV V' V' N' K' R' t' → t' ≤ t + 60 → jv_J g X I_L_law 2712 (lws g b i w5 w6 w7 w8) [] n' (SH sx') V' L' (k - 22) (z - 144))) : jv_J g X I_L_law 2421 (lws g b i v5 v6 v7 v8) [] n (SH sx) V L k z := by
  have hN := H.N12
  have hN2 := H.1.2.2.2.1
  have hK := H.K4
  have hR := H.R8
  rcases fl (xs (i + 1)) (n := R) (by omega) with hx | ⟨j, hj, e1⟩
  · exact lc_39 hSc hM hi (by omega) (by omega) (c := 1) (r := nI 0) (V1 := V) (V2 := t1 V 1) (L1 := L) (fun X' hM' => by exact we_quietIn_2 H.1  hx (Nat.le_refl 1) (Nat.le_refl 6) hM' (fun n' hn' => ⟨hn', rfl, rfl, rfl, rfl⟩)) (fun n' hn' X' T' hM' hT' => by exact q_quietIn_0 H.2.2.1  hx hM' hT') jv_Ueq (fun h => absurd h (nIne (by omega) (by omega))) (fun n' hn' => j_wk (by omega) (by omega) (next n' sx _ L _ _ _ _ _ _ _ _ H.no (by omega)))
  · skip
    have hN := H.N12
    have hK := H.K4
    have hR := H.R8
    have ho : ∀ q, 123 ≤ q → (triV V N j) q = V q := fun q hq => triV_out (by omega)
    generalize hV1 : (triV V N j : Nat → Nat → Int32) = V1 at ho
    have S : INV V V1 N K R t := H.start ho
    have Z : INV V (t0 V1) N K R t := S.tz
    obtain ⟨P, e⟩ := Z.triQ (by omega) hj
    rw [hV1] at P
    have o2 : ∀ q, q ≤ 123 → (bbM (qtM (t0 V1) N K j).1) q = t0 V1 q := fun q hq => by unfold qtM; rw [bbM_out (by omega), qtL_o (by omega), kpM_out (by omega)]
    have F := P.self (fun q hq => (o2 q (by omega)).trans (t0_out (by omega)))
    exact lc_39 hSc hM hi (by omega) (by omega) (c := 0) (r := qtI (qtM (t0 V1) N K j).2) (V1 := V1) (V2 := bbM (qtM (t0 V1) N K j).1) (L1 := jv_UL L 140 0 ((qtR V N j : Int32).toInt64)) (fun X' hM' => by rw [e1]; exact wg_quietIn H.1 hj hM' ⟨Nat.le_refl _, rfl, rfl, hV1, rfl⟩) (fun n' hn' X' T' hM' hT' => by rw [e1]; exact m_quietIn S.2.2.1 hj hM' hT') ((congrFun (o2 123 (by omega)) 0).trans t0_0) (fun _ => by rw [UL_eq, e]) (fun n' hn' => j_wk (by omega) (by omega) (next n' sx _ _ _ _ _ _ _ _ _ _ F (by omega)))

set_option maxHeartbeats 4000000 in
set_option maxRecDepth 100000 in
theorem br_40 {g : jv_G} {X : jv_X} {n : Nat} {sx : Nat → jv_S} {V : Nat → Nat → Int32} {L : Nat → Nat → Int64} {k z b M i : Nat} {xs : Nat → Int32} {v5 v6 v7 v8 : Option Value} {N K R t : Nat} (hSc : Sc g X b M xs) (hM : M ≤ 2560) (hi : i + 5 ≤ M) (H : INV V V N K R t) (ht : t + 60 ≤ 2 ^ 29) (hk : 22 ≤ k) (hz : 144 ≤ z) (next : (∀ n' sx' V' L' N' K' R' t' w5 w6 w7 w8, INV V' V' N' K' R' t' → t' ≤ t + 60 → jv_J g X I_L_law 2712 (lws g b i w5 w6 w7 w8) [] n' (SH sx') V' L' (k - 22) (z - 144))) : jv_J g X I_L_law 2477 (lws g b i v5 v6 v7 v8) [] n (SH sx) V L k z := by
  have hN := H.N12
  have hN2 := H.1.2.2.2.1
  have hK := H.K4
  have hR := H.R8
  rcases fl (xs (i + 1)) (n := R) (by omega) with hx | ⟨j, hj, e1⟩
  · exact lc_40 hSc hM hi (by omega) (by omega) (c := 1) (r := nI 0) (V1 := V) (V2 := t1 V 1) (L1 := L) (fun X' hM' => by exact we_believersWith_2 H.1  hx (Nat.le_refl 1) (Nat.le_refl 6) hM' (fun n' hn' => ⟨hn', rfl, rfl, rfl, rfl⟩)) (fun n' hn' X' T' hM' hT' => by exact q_believersWith_0 H.2.2.1  hx hM' hT') jv_Ueq (fun h => absurd h (nIne (by omega) (by omega))) (fun n' hn' => j_wk (by omega) (by omega) (next n' sx _ L _ _ _ _ _ _ _ _ H.no (by omega)))
  · skip
    rcases fl (xs (i + 2)) (n := N) (by omega) with hx | ⟨f, hf, e2⟩
    · exact lc_40 hSc hM hi (by omega) (by omega) (c := 1) (r := nI 0) (V1 := V) (V2 := t1 V 1) (L1 := L) (fun X' hM' => by rw [e1]; exact we_believersWith_7 H.1 hj hx (Nat.le_refl 1) (Nat.le_refl 6) hM' (fun n' hn' => ⟨hn', rfl, rfl, rfl, rfl⟩)) (fun n' hn' X' T' hM' hT' => by rw [e1]; exact q_believersWith_1 H.2.2.1 hj hx hM' hT') jv_Ueq (fun h => absurd h (nIne (by omega) (by omega))) (fun n' hn' => j_wk (by omega) (by omega) (next n' sx _ L _ _ _ _ _ _ _ _ H.no (by omega)))
    · skip
      have hN := H.N12
      have hK := H.K4
      have hR := H.R8
      have ho : ∀ q, 123 ≤ q → (triD V N j f) q = V q := fun q hq => triD_out (by omega)
      generalize hV1 : (triD V N j f : Nat → Nat → Int32) = V1 at ho
      have S : INV V V1 N K R t := H.start ho
      have Z : INV V (t0 V1) N K R t := S.tz
      obtain ⟨P, e⟩ := Z.trd (f := f) (by omega) hj hf
      rw [hV1] at P
      have o2 : ∀ q, q ≤ 123 → (bbM (wiM (t0 V1) N K j f)) q = t0 V1 q := fun q hq => by rw [bbM_out (by omega), wiM_out (by omega)]
      have F := P.self (fun q hq => (o2 q (by omega)).trans (t0_out (by omega)))
      exact lc_40 hSc hM hi (by omega) (by omega) (c := 0) (r := beL (wiM (t0 V1) N K j f) j N 0 (nI 0)) (V1 := V1) (V2 := bbM (wiM (t0 V1) N K j f)) (L1 := jv_UL L 140 0 ((hbL (triD V N j f) 33 N 0 (nI 0) : Int32).toInt64)) (fun X' hM' => by rw [e1, e2]; exact wg_believersWith H.1 hj hf hM' ⟨Nat.le_refl _, rfl, rfl, hV1, rfl⟩) (fun n' hn' X' T' hM' hT' => by rw [e1, e2]; exact m_believersWith S.2.2.1 hj hf hM' hT') ((congrFun (o2 123 (by omega)) 0).trans t0_0) (fun _ => by rw [UL_eq, e]) (fun n' hn' => j_wk (by omega) (by omega) (next n' sx _ _ _ _ _ _ _ _ _ _ F (by omega)))

set_option maxHeartbeats 4000000 in
set_option maxRecDepth 100000 in
theorem br_41 {g : jv_G} {X : jv_X} {n : Nat} {sx : Nat → jv_S} {V : Nat → Nat → Int32} {L : Nat → Nat → Int64} {k z b M i : Nat} {xs : Nat → Int32} {v5 v6 v7 v8 : Option Value} {N K R t : Nat} (hSc : Sc g X b M xs) (hM : M ≤ 2560) (hi : i + 5 ≤ M) (H : INV V V N K R t) (ht : t + 60 ≤ 2 ^ 29) (hk : 22 ≤ k) (hz : 144 ≤ z) (next : (∀ n' sx' V' L' N' K' R' t' w5 w6 w7 w8, INV V' V' N' K' R' t' → t' ≤ t + 60 → jv_J g X I_L_law 2712 (lws g b i w5 w6 w7 w8) [] n' (SH sx') V' L' (k - 22) (z - 144))) : jv_J g X I_L_law 2545 (lws g b i v5 v6 v7 v8) [] n (SH sx) V L k z := by
  have hN := H.N12
  have hN2 := H.1.2.2.2.1
  have hK := H.K4
  have hR := H.R8
  rcases fl (xs (i + 1)) (n := R) (by omega) with hx | ⟨j, hj, e1⟩
  · exact lc_41 hSc hM hi (by omega) (by omega) (c := 1) (r := nI 0) (V1 := V) (V2 := t1 V 1) (L1 := L) (fun X' hM' => by exact we_bestDenial_2 H.1  hx (Nat.le_refl 1) (Nat.le_refl 6) hM' (fun n' hn' => ⟨hn', rfl, rfl, rfl, rfl⟩)) (fun n' hn' X' T' hM' hT' => by exact q_bestDenial_0 H.2.2.1  hx hM' hT') jv_Ueq (fun h => absurd h (nIne (by omega) (by omega))) (fun n' hn' => j_wk (by omega) (by omega) (next n' sx _ L _ _ _ _ _ _ _ _ H.no (by omega)))
  · skip
    have hN := H.N12
    have hK := H.K4
    have hR := H.R8
    have ho : ∀ q, 123 ≤ q → (bdV N j (N - 1) 1 (triD V N j 0)) q = V q := fun q hq => by rw [bdV_out (by omega), triD_out (by omega)]
    generalize hV1 : (bdV N j (N - 1) 1 (triD V N j 0) : Nat → Nat → Int32) = V1 at ho
    have S : INV V V1 N K R t := H.start ho
    have Z : INV V (t0 V1) N K R t := S.tz
    obtain ⟨P, e0⟩ := Z.bestD (by omega) hj
    have e := congrArg nI e0
    rw [hV1] at P
    have o2 : ∀ q, q ≤ 123 → (dnX (t0 V1) N K j) q = t0 V1 q := fun q hq => dnX_o (by omega) (by omega)
    have F := P.self (fun q hq => (o2 q (by omega)).trans (t0_out (by omega)))
    exact lc_41 hSc hM hi (by omega) (by omega) (c := 0) (r := nI (dnR (t0 V1) N K j)) (V1 := V1) (V2 := dnX (t0 V1) N K j) (L1 := jv_UL L 140 0 ((nI (bdB N j (N - 1) 1 (triD V N j 0) 0 (hbL (triD V N j 0) 33 N 0 (nI 0))) : Int32).toInt64)) (fun X' hM' => by rw [e1]; exact wg_bestDenial H.1 hj hM' ⟨Nat.le_refl _, rfl, rfl, hV1, rfl⟩) (fun n' hn' X' T' hM' hT' => by rw [e1]; exact m_bestDenial S.2.2.1 hj hM' hT') ((congrFun (o2 123 (by omega)) 0).trans t0_0) (fun _ => by rw [UL_eq, e]) (fun n' hn' => j_wk (by omega) (by omega) (next n' sx _ _ _ _ _ _ _ _ _ _ F (by omega)))

set_option maxHeartbeats 4000000 in
set_option maxRecDepth 100000 in
theorem br_42 {g : jv_G} {X : jv_X} {n : Nat} {sx : Nat → jv_S} {V : Nat → Nat → Int32} {L : Nat → Nat → Int64} {k z b M i : Nat} {xs : Nat → Int32} {v5 v6 v7 v8 : Option Value} {N K R t : Nat} (hSc : Sc g X b M xs) (hM : M ≤ 2560) (hi : i + 5 ≤ M) (H : INV V V N K R t) (ht : t + 60 ≤ 2 ^ 29) (hk : 22 ≤ k) (hz : 144 ≤ z) (next : (∀ n' sx' V' L' N' K' R' t' w5 w6 w7 w8, INV V' V' N' K' R' t' → t' ≤ t + 60 → jv_J g X I_L_law 2712 (lws g b i w5 w6 w7 w8) [] n' (SH sx') V' L' (k - 22) (z - 144))) : jv_J g X I_L_law 2601 (lws g b i v5 v6 v7 v8) [] n (SH sx) V L k z := by
  have hN := H.N12
  have hN2 := H.1.2.2.2.1
  have hK := H.K4
  have hR := H.R8
  rcases fl (xs (i + 1)) (n := R) (by omega) with hx | ⟨j, hj, e1⟩
  · exact lc_42 hSc hM hi (by omega) (by omega) (c := 1) (r := nI 0) (V1 := V) (V2 := t1 V 1) (L1 := L) (fun X' hM' => by exact we_bestStairsToShut_2 H.1  hx (Nat.le_refl 1) (Nat.le_refl 6) hM' (fun n' hn' => ⟨hn', rfl, rfl, rfl, rfl⟩)) (fun n' hn' X' T' hM' hT' => by exact q_bestStairsToShut_0 H.2.2.1  hx hM' hT') jv_Ueq (fun h => absurd h (nIne (by omega) (by omega))) (fun n' hn' => j_wk (by omega) (by omega) (next n' sx _ L _ _ _ _ _ _ _ _ H.no (by omega)))
  · skip
    have hN := H.N12
    have hK := H.K4
    have hR := H.R8
    have ho : ∀ q, 123 ≤ q → ((bsL N K j (N - 1) 0 (triV V N j) none (hbL (triV V N j) 33 N 0 (nI 0))).1) q = V q := fun q hq => by rw [bsL_hi hq hN, triV_out (by omega)]
    generalize hV1 : ((bsL N K j (N - 1) 0 (triV V N j) none (hbL (triV V N j) 33 N 0 (nI 0))).1 : Nat → Nat → Int32) = V1 at ho
    have S : INV V V1 N K R t := H.start ho
    have Z : INV V (t0 V1) N K R t := S.tz
    obtain ⟨P, e0⟩ := Z.bestS (by omega) hj
    have e := congrArg ov e0
    rw [hV1] at P
    have o2 : ∀ q, q ≤ 123 → ((shX (t0 V1) N K j).1) q = t0 V1 q := fun q hq => shX_o (by omega) (by omega) (by omega)
    have F := P.self (fun q hq => (o2 q (by omega)).trans (t0_out (by omega)))
    exact lc_42 hSc hM hi (by omega) (by omega) (c := 0) (r := ov (shX (t0 V1) N K j).2) (V1 := V1) (V2 := (shX (t0 V1) N K j).1) (L1 := jv_UL L 140 0 ((ov (bsL N K j (N - 1) 0 (triV V N j) none (hbL (triV V N j) 33 N 0 (nI 0))).2 : Int32).toInt64)) (fun X' hM' => by rw [e1]; exact wg_bestStairsToShut H.1 hj hM' ⟨Nat.le_refl _, rfl, rfl, hV1, rfl⟩) (fun n' hn' X' T' hM' hT' => by rw [e1]; exact m_bestStairsToShut S.2.2.1 hj hM' hT') ((congrFun (o2 123 (by omega)) 0).trans t0_0) (fun _ => by rw [UL_eq, e]) (fun n' hn' => j_wk (by omega) (by omega) (next n' sx _ _ _ _ _ _ _ _ _ _ F (by omega)))

set_option maxHeartbeats 4000000 in
set_option maxRecDepth 100000 in
theorem br_5 {g : jv_G} {X : jv_X} {n : Nat} {sx : Nat → jv_S} {V : Nat → Nat → Int32} {L : Nat → Nat → Int64} {k z b M i : Nat} {xs : Nat → Int32} {v5 v6 v7 v8 : Option Value} {N K R t : Nat} (hSc : Sc g X b M xs) (hM : M ≤ 2560) (hi : i + 5 ≤ M) (H : INV V V N K R t) (ht : t + 60 ≤ 2 ^ 29) (hk : 22 ≤ k) (hz : 144 ≤ z) (next : (∀ n' sx' V' L' N' K' R' t' w5 w6 w7 w8, INV V' V' N' K' R' t' → t' ≤ t + 60 → jv_J g X I_L_law 2712 (lws g b i w5 w6 w7 w8) [] n' (SH sx') V' L' (k - 22) (z - 144))) : jv_J g X I_L_law 555 (lws g b i v5 v6 v7 v8) [] n (SH sx) V L k z := by
  have hN := H.N12
  have hN2 := H.1.2.2.2.1
  have hK := H.K4
  have hR := H.R8
  rcases fl (xs (i + 1)) (n := N) (by omega) with hx | ⟨lo, hlo, e1⟩
  · exact lc_5 hSc hM hi (by omega) (by omega) (c := 1) (r := nI 0) (V1 := V) (V2 := t1 V 1) (L1 := L) (fun X' hM' => by exact we_addLift_2 H.1 hx (Nat.le_refl 1) (Nat.le_refl 6) hM' (fun n' hn' => ⟨hn', rfl, rfl, rfl, rfl⟩)) (fun n' hn' X' T' hM' hT' => by exact q_addLift_0 H.2.2.1 hx hM' hT') jv_Ueq (fun h => absurd h (nIne (by omega) (by omega))) (fun n' hn' => j_wk (by omega) (by omega) (next n' sx _ L _ _ _ _ _ _ _ _ H.no (by omega)))
  rcases fl (xs (i + 2)) (n := N) (by omega) with hx | ⟨hi', hhi, e2⟩
  · exact lc_5 hSc hM hi (by omega) (by omega) (c := 1) (r := nI 0) (V1 := V) (V2 := t1 V 1) (L1 := L) (fun X' hM' => by rw [e1]; exact we_addLift_7 H.1 hlo hx (Nat.le_refl 1) (Nat.le_refl 6) hM' (fun n' hn' => ⟨hn', rfl, rfl, rfl, rfl⟩)) (fun n' hn' X' T' hM' hT' => by rw [e1]; exact q_addLift_1 H.2.2.1 hlo hx hM' hT') jv_Ueq (fun h => absurd h (nIne (by omega) (by omega))) (fun n' hn' => j_wk (by omega) (by omega) (next n' sx _ L _ _ _ _ _ _ _ _ H.no (by omega)))
  by_cases hx : hi' ≤ lo ∨ xs (i + 3) < nI 1 ∨ nI hi' - nI lo < xs (i + 3)
  · have hx' : xs (i + 3) < nI 1 ∨ nI hi' - nI lo < xs (i + 3) := by
      rcases hx with h | h
      · by_cases h1 : xs (i + 3) < nI 1
        · exact Or.inl h1
        · refine Or.inr (Int32.lt_of_le_of_lt ?_ (Int32.lt_of_lt_of_le (nI_lt (show 0 < 1 by omega) (by omega)) (Int32.not_lt.mp h1)))
          rw [Int32.le_iff_toInt_le, pk_sub_toInt (by omega) (by omega), nI_toInt (by omega)]
          omega
      · exact h
    exact lc_5 hSc hM hi (by omega) (by omega) (c := 2) (r := nI 0) (V1 := V) (V2 := t1 V 2) (L1 := L) (fun X' hM' => by rw [e1, e2]; exact we_addLift_15 H.1 hlo hhi hx' (Nat.le_refl 1) (Nat.le_refl 6) hM' (fun n' hn' => ⟨hn', rfl, rfl, rfl, rfl⟩)) (fun n' hn' X' T' hM' hT' => by rw [e1, e2]; exact q_addLift_2 H.2.2.1 hlo hhi hx hM' hT') jv_Ueq (fun h => absurd h (nIne (by omega) (by omega))) (fun n' hn' => j_wk (by omega) (by omega) (next n' sx _ L _ _ _ _ _ _ _ _ H.no (by omega)))
  have hlt : lo < hi' := Nat.lt_of_not_le (fun h => hx (Or.inl h))
  have hxa : ¬ xs (i + 3) < nI 1 := fun h => hx (Or.inr (Or.inl h))
  have hxb : ¬ nI hi' - nI lo < xs (i + 3) := fun h => hx (Or.inr (Or.inr h))
  obtain ⟨ev, e3, he1, he2⟩ : ∃ ev, xs (i + 3) = nI ev ∧ 1 ≤ ev ∧ ev ≤ hi' - lo := by
    rw [pk_sub (by omega)] at hxb
    rcases rg (xs (i + 3)) 1 (hi' - lo) (by omega) (by omega) with h | ⟨-, -, a, h1, h2, h3⟩
    · exact (h.elim hxa hxb).elim
    · exact ⟨a, h1, h2, h3⟩
  rcases rg (xs (i + 4)) 1 9 (by omega) (by omega) with hx4 | ⟨hA, hB, a, ea, ha1, ha2⟩
  · exact lc_5 hSc hM hi (by omega) (by omega) (c := 2) (r := nI 0) (V1 := V) (V2 := t1 V 2) (L1 := L) (fun X' hM' => by rw [e1, e2, e3]; exact we_addLift_23 H.1 hlo hhi hlt he1 he2 hx4 (Nat.le_refl 1) (Nat.le_refl 6) hM' (fun n' hn' => ⟨hn', rfl, rfl, rfl, rfl⟩)) (fun n' hn' X' T' hM' hT' => by rw [e1, e2, e3]; exact q_addLift_3 H.2.2.1 hlo hhi hlt he1 he2 hx4 hM' hT') jv_Ueq (fun h => absurd h (nIne (by omega) (by omega))) (fun n' hn' => j_wk (by omega) (by omega) (next n' sx _ L _ _ _ _ _ _ _ _ H.no (by omega)))
  by_cases hK3 : K < 4
  · skip
    have hN := H.N12
    have hK := H.K4
    have hR := H.R8
    have ho : ∀ q, 123 ≤ q → (layV (putV V K lo hi' ev (xs (i + 4))) N (K + 1)) q = V q := fun q hq => (layV_out (by omega)).trans (putV_o (by omega) (by omega) (by omega))
    generalize hV1 : (layV (putV V K lo hi' ev (xs (i + 4))) N (K + 1) : Nat → Nat → Int32) = V1 at ho
    have S : INV V V1 N K R t := H.start ho
    have Z : INV V (t0 V1) N K R t := S.tz
    have P := Z.addL (lo := lo) hhi hlt he1 he2 ea ha1 ha2 hK3
    have e : nI K = nI (K + 1 - 1) := rfl
    rw [hV1] at P
    have o2 : ∀ q, q ≤ 122 → (adM (t0 V1) K lo hi' ev (xs (i + 4))) q = t0 V1 q := fun q hq => adM_o (by omega)
    have F := P.self (fun q hq => (o2 q (by omega)).trans (t0_out (by omega)))
    exact lc_5 hSc hM hi (by omega) (by omega) (c := 0) (r := nI (K + 1 - 1)) (V1 := V1) (V2 := adM (t0 V1) K lo hi' ev (xs (i + 4))) (L1 := jv_UL L 140 0 ((nI K : Int32).toInt64)) (fun X' hM' => by rw [e1, e2, e3]; exact wg_addLift H.1 hlo hhi hlt he1 he2 hA hB hK3 hM' ⟨Nat.le_refl _, rfl, rfl, hV1, rfl⟩) (fun n' hn' X' T' hM' hT' => by rw [e1, e2, e3]; exact m_addLift S.2.2.1 hlo hhi hlt he1 he2 hA hB hK3 hM' hT') (adM_0.trans t0_0) (fun _ => UL_eq) (fun n' hn' => j_wk (by omega) (by omega) (next n' sx _ _ _ _ _ _ _ _ _ _ F (by omega)))
  · exact lc_5 hSc hM hi (by omega) (by omega) (c := 3) (r := nI 0) (V1 := V) (V2 := t1 V 3) (L1 := L) (fun X' hM' => by rw [e1, e2, e3]; exact we_addLift_34 H.1 hlo hhi hlt he1 he2 hA hB (by omega) (Nat.le_refl 1) (Nat.le_refl 6) hM' (fun n' hn' => ⟨hn', rfl, rfl, rfl, rfl⟩)) (fun n' hn' X' T' hM' hT' => by rw [e1, e2, e3]; exact q_addLift_4 H.2.2.1 hlo hhi hlt he1 he2 hA hB (by omega) hM' hT') jv_Ueq (fun h => absurd h (nIne (by omega) (by omega))) (fun n' hn' => j_wk (by omega) (by omega) (next n' sx _ L _ _ _ _ _ _ _ _ H.no (by omega)))

set_option maxHeartbeats 4000000 in
set_option maxRecDepth 100000 in
theorem br_10 {g : jv_G} {X : jv_X} {n : Nat} {sx : Nat → jv_S} {V : Nat → Nat → Int32} {L : Nat → Nat → Int64} {k z b M i : Nat} {xs : Nat → Int32} {v5 v6 v7 v8 : Option Value} {N K R t : Nat} (hSc : Sc g X b M xs) (hM : M ≤ 2560) (hi : i + 5 ≤ M) (H : INV V V N K R t) (ht : t + 60 ≤ 2 ^ 29) (hk : 22 ≤ k) (hz : 144 ≤ z) (next : (∀ n' sx' V' L' N' K' R' t' w5 w6 w7 w8, INV V' V' N' K' R' t' → t' ≤ t + 60 → jv_J g X I_L_law 2712 (lws g b i w5 w6 w7 w8) [] n' (SH sx') V' L' (k - 22) (z - 144))) : jv_J g X I_L_law 902 (lws g b i v5 v6 v7 v8) [] n (SH sx) V L k z := by
  have hN := H.N12
  have hK := H.K4
  have hR := H.R8
  have S := H
  have F : INV (t2 V 0) (t2 V 0) N K R t := (H.to (EqV.refl V) EqW_t2).self (fun q hq => jv_U_other (by omega))
  exact lc_10 (r := nI N) (V1 := V) (V2 := t2 V 0) (fun X' T' hM' hT' => g_floors H.1 hM' (hT')) (fun X' T' hM' hT' => m_floors S.2.2.1 hM' hT') (j_wk (by omega) (by omega) (next n sx _ _ _ _ _ _ _ _ _ _ F (by omega)))

set_option maxHeartbeats 4000000 in
set_option maxRecDepth 100000 in
theorem br_11 {g : jv_G} {X : jv_X} {n : Nat} {sx : Nat → jv_S} {V : Nat → Nat → Int32} {L : Nat → Nat → Int64} {k z b M i : Nat} {xs : Nat → Int32} {v5 v6 v7 v8 : Option Value} {N K R t : Nat} (hSc : Sc g X b M xs) (hM : M ≤ 2560) (hi : i + 5 ≤ M) (H : INV V V N K R t) (ht : t + 60 ≤ 2 ^ 29) (hk : 22 ≤ k) (hz : 144 ≤ z) (next : (∀ n' sx' V' L' N' K' R' t' w5 w6 w7 w8, INV V' V' N' K' R' t' → t' ≤ t + 60 → jv_J g X I_L_law 2712 (lws g b i w5 w6 w7 w8) [] n' (SH sx') V' L' (k - 22) (z - 144))) : jv_J g X I_L_law 915 (lws g b i v5 v6 v7 v8) [] n (SH sx) V L k z := by
  have hN := H.N12
  have hK := H.K4
  have hR := H.R8
  have S := H
  have F : INV (t2 V 0) (t2 V 0) N K R t := (H.to (EqV.refl V) EqW_t2).self (fun q hq => jv_U_other (by omega))
  exact lc_11 (r := V 135 864) (V1 := V) (V2 := t2 V 0) (fun X' T' hM' hT' => g_hours H.1 hM' (by rw [show V 0 5 = V 135 864 from H.2.1.trans H.2.2.2.1.symm]; exact hT')) (fun X' T' hM' hT' => m_hours S.2.2.1 hM' hT') (j_wk (by omega) (by omega) (next n sx _ _ _ _ _ _ _ _ _ _ F (by omega)))

set_option maxHeartbeats 4000000 in
set_option maxRecDepth 100000 in
theorem br_12 {g : jv_G} {X : jv_X} {n : Nat} {sx : Nat → jv_S} {V : Nat → Nat → Int32} {L : Nat → Nat → Int64} {k z b M i : Nat} {xs : Nat → Int32} {v5 v6 v7 v8 : Option Value} {N K R t : Nat} (hSc : Sc g X b M xs) (hM : M ≤ 2560) (hi : i + 5 ≤ M) (H : INV V V N K R t) (ht : t + 60 ≤ 2 ^ 29) (hk : 22 ≤ k) (hz : 144 ≤ z) (next : (∀ n' sx' V' L' N' K' R' t' w5 w6 w7 w8, INV V' V' N' K' R' t' → t' ≤ t + 60 → jv_J g X I_L_law 2712 (lws g b i w5 w6 w7 w8) [] n' (SH sx') V' L' (k - 22) (z - 144))) : jv_J g X I_L_law 928 (lws g b i v5 v6 v7 v8) [] n (SH sx) V L k z := by
  have hN := H.N12
  have hK := H.K4
  have hR := H.R8
  have S := H
  have F : INV (t2 V 0) (t2 V 0) N K R t := (H.to (EqV.refl V) EqW_t2).self (fun q hq => jv_U_other (by omega))
  exact lc_12 (r := nI K) (V1 := V) (V2 := t2 V 0) (fun X' T' hM' hT' => g_lifts H.1 hM' (hT')) (fun X' T' hM' hT' => m_lifts S.2.2.1 hM' hT') (j_wk (by omega) (by omega) (next n sx _ _ _ _ _ _ _ _ _ _ F (by omega)))

set_option maxHeartbeats 4000000 in
set_option maxRecDepth 100000 in
theorem br_13 {g : jv_G} {X : jv_X} {n : Nat} {sx : Nat → jv_S} {V : Nat → Nat → Int32} {L : Nat → Nat → Int64} {k z b M i : Nat} {xs : Nat → Int32} {v5 v6 v7 v8 : Option Value} {N K R t : Nat} (hSc : Sc g X b M xs) (hM : M ≤ 2560) (hi : i + 5 ≤ M) (H : INV V V N K R t) (ht : t + 60 ≤ 2 ^ 29) (hk : 22 ≤ k) (hz : 144 ≤ z) (next : (∀ n' sx' V' L' N' K' R' t' w5 w6 w7 w8, INV V' V' N' K' R' t' → t' ≤ t + 60 → jv_J g X I_L_law 2712 (lws g b i w5 w6 w7 w8) [] n' (SH sx') V' L' (k - 22) (z - 144))) : jv_J g X I_L_law 941 (lws g b i v5 v6 v7 v8) [] n (SH sx) V L k z := by
  have hN := H.N12
  have hK := H.K4
  have hR := H.R8
  have S := H
  have F : INV (t2 V 0) (t2 V 0) N K R t := (H.to (EqV.refl V) EqW_t2).self (fun q hq => jv_U_other (by omega))
  exact lc_13 (r := nI R) (V1 := V) (V2 := t2 V 0) (fun X' T' hM' hT' => g_rumours H.1 hM' (hT')) (fun X' T' hM' hT' => m_rumours S.2.2.1 hM' hT') (j_wk (by omega) (by omega) (next n sx _ _ _ _ _ _ _ _ _ _ F (by omega)))

set_option maxHeartbeats 4000000 in
set_option maxRecDepth 100000 in
theorem br_34 {g : jv_G} {X : jv_X} {n : Nat} {sx : Nat → jv_S} {V : Nat → Nat → Int32} {L : Nat → Nat → Int64} {k z b M i : Nat} {xs : Nat → Int32} {v5 v6 v7 v8 : Option Value} {N K R t : Nat} (hSc : Sc g X b M xs) (hM : M ≤ 2560) (hi : i + 5 ≤ M) (H : INV V V N K R t) (ht : t + 60 ≤ 2 ^ 29) (hk : 22 ≤ k) (hz : 144 ≤ z) (next : (∀ n' sx' V' L' N' K' R' t' w5 w6 w7 w8, INV V' V' N' K' R' t' → t' ≤ t + 60 → jv_J g X I_L_law 2712 (lws g b i w5 w6 w7 w8) [] n' (SH sx') V' L' (k - 22) (z - 144))) : jv_J g X I_L_law 2191 (lws g b i v5 v6 v7 v8) [] n (SH sx) V L k z := by
  have hN := H.N12
  have hK := H.K4
  have hR := H.R8
  have S : INV V (cenL N N 0 V none (nI 0)).1 N K R t := H.start (fun q hq => cenL_out (by omega) _ _ _ _ _)
  have F : INV (t2 (mdL N K N 0 (cenL N N 0 V none (nI 0)).1 none (nI 0)).1 0) (t2 (mdL N K N 0 (cenL N N 0 V none (nI 0)).1 none (nI 0)).1 0) N K R t := INV.self (V1 := (cenL N N 0 V none (nI 0)).1) (S.to (fun q a b c => cenL_out (by omega) _ _ _ _ _) (EqW.trans EqW_t2 (EqW_of (fun q a b => mdL_out (by omega) _ _ _ _ _)))) (fun q hq => by unfold t2; rw [jv_U_other (by omega), mdL_out (by omega)])
  exact lc_34 (r := oz (mdL N K N 0 (cenL N N 0 V none (nI 0)).1 none (nI 0)).2) (V1 := (cenL N N 0 V none (nI 0)).1) (V2 := t2 (mdL N K N 0 (cenL N N 0 V none (nI 0)).1 none (nI 0)).1 0) (fun X' T' hM' hT' => g_centre H.1 hM' (by rw [show oz (cenL N N 0 V none (nI 0)).2 = oz (mdL N K N 0 (cenL N N 0 V none (nI 0)).1 none (nI 0)).2 from congrArg oz (cen_alike hN N 0 V _ none (nI 0) (by omega) S.wp)]; exact hT')) (fun X' T' hM' hT' => m_centre S.2.2.1 hM' hT') (j_wk (by omega) (by omega) (next n sx _ _ _ _ _ _ _ _ _ _ F (by omega)))

set_option maxHeartbeats 4000000 in
set_option maxRecDepth 100000 in
theorem br_35 {g : jv_G} {X : jv_X} {n : Nat} {sx : Nat → jv_S} {V : Nat → Nat → Int32} {L : Nat → Nat → Int64} {k z b M i : Nat} {xs : Nat → Int32} {v5 v6 v7 v8 : Option Value} {N K R t : Nat} (hSc : Sc g X b M xs) (hM : M ≤ 2560) (hi : i + 5 ≤ M) (H : INV V V N K R t) (ht : t + 60 ≤ 2 ^ 29) (hk : 22 ≤ k) (hz : 144 ≤ z) (next : (∀ n' sx' V' L' N' K' R' t' w5 w6 w7 w8, INV V' V' N' K' R' t' → t' ≤ t + 60 → jv_J g X I_L_law 2712 (lws g b i w5 w6 w7 w8) [] n' (SH sx') V' L' (k - 22) (z - 144))) : jv_J g X I_L_law 2204 (lws g b i v5 v6 v7 v8) [] n (SH sx) V L k z := by
  have hN := H.N12
  have hK := H.K4
  have hR := H.R8
  have S : INV V (parL N N 0 V 0).1 N K R t := H.start (fun q hq => parL_out (by omega) _ _ _ _)
  have F : INV (t2 (pnL N K N 0 (parL N N 0 V 0).1 0).1 0) (t2 (pnL N K N 0 (parL N N 0 V 0).1 0).1 0) N K R t := INV.self (V1 := (parL N N 0 V 0).1) (S.to (fun q a b c => parL_out (by omega) _ _ _ _) (EqW.trans EqW_t2 (EqW_of (fun q a b => pnL_out (by omega) _ _ _ _)))) (fun q hq => by unfold t2; rw [jv_U_other (by omega), pnL_out (by omega)])
  exact lc_35 (r := nI (pnL N K N 0 (parL N N 0 V 0).1 0).2) (V1 := (parL N N 0 V 0).1) (V2 := t2 (pnL N K N 0 (parL N N 0 V 0).1 0).1 0) (fun X' T' hM' hT' => g_parts H.1 hM' (by rw [show nI (parL N N 0 V 0).2 = nI (pnL N K N 0 (parL N N 0 V 0).1 0).2 from congrArg nI (par_alike hN N 0 V _ 0 (by omega) S.wp)]; exact hT')) (fun X' T' hM' hT' => m_parts S.2.2.1 hM' hT') (j_wk (by omega) (by omega) (next n sx _ _ _ _ _ _ _ _ _ _ F (by omega)))

set_option maxHeartbeats 4000000 in
set_option maxRecDepth 100000 in
theorem br_43 {g : jv_G} {X : jv_X} {n : Nat} {sx : Nat → jv_S} {V : Nat → Nat → Int32} {L : Nat → Nat → Int64} {k z b M i : Nat} {xs : Nat → Int32} {v5 v6 v7 v8 : Option Value} {N K R t : Nat} (hSc : Sc g X b M xs) (hM : M ≤ 2560) (hi : i + 5 ≤ M) (H : INV V V N K R t) (ht : t + 60 ≤ 2 ^ 29) (hk : 22 ≤ k) (hz : 144 ≤ z) (next : (∀ n' sx' V' L' N' K' R' t' w5 w6 w7 w8, INV V' V' N' K' R' t' → t' ≤ t + 60 → jv_J g X I_L_law 2712 (lws g b i w5 w6 w7 w8) [] n' (SH sx') V' L' (k - 22) (z - 144))) : jv_J g X I_L_law 2657 (lws g b i v5 v6 v7 v8) [] n (SH sx) V L k z := by
  have hN := H.N12
  have hN2 := H.1.2.2.2.1
  have Z : INV V (t0 V) N K R t := H.tz
  have F : INV (t0 V) (t0 V) N K R t := Z.self (fun q hq => t0_out (by omega))
  obtain ⟨e, s, es, hs⟩ := smL_alike Z.2.2.2.2.1.2.2.1 N 0 0 (by omega) (by omega)
  refine lc_43 (r := FP.ddiv (FP.i2d (smM (t0 V) N 0 (nI 0))) (FP.i2d (nI N))) (V1 := V) (V2 := t0 V) (by rw [es]; exact dcq (by omega) hN2 hN) (fun X' T' hM' hT' => g_meanHeads H.1 (by rw [e, es]; exact dv_n64 (by omega) hN2 hN) hM' (by rw [e]; exact hT')) (fun X' T' hM' hT' => m_meanHeads H.2.2.1 (by rw [es]; exact dv_n64 (by omega) hN2 hN) hM' hT') (j_wk (by omega) (by omega) (next n sx _ _ _ _ _ _ _ _ _ _ F (by omega)))

set_option maxHeartbeats 4000000 in
set_option maxRecDepth 100000 in
theorem br_44 {g : jv_G} {X : jv_X} {n : Nat} {sx : Nat → jv_S} {V : Nat → Nat → Int32} {L : Nat → Nat → Int64} {k z b M i : Nat} {xs : Nat → Int32} {v5 v6 v7 v8 : Option Value} {N K R t : Nat} (hSc : Sc g X b M xs) (hM : M ≤ 2560) (hi : i + 5 ≤ M) (H : INV V V N K R t) (ht : t + 60 ≤ 2 ^ 29) (hk : 22 ≤ k) (hz : 144 ≤ z) (next : (∀ n' sx' V' L' N' K' R' t' w5 w6 w7 w8, INV V' V' N' K' R' t' → t' ≤ t + 60 → jv_J g X I_L_law 2712 (lws g b i w5 w6 w7 w8) [] n' (SH sx') V' L' (k - 22) (z - 144))) : jv_J g X I_L_law 2698 (lws g b i v5 v6 v7 v8) [] n (SH sx) V L k z := by
  have hN := H.N12
  have S : INV V (dgX V N K R).1 N K R t := H.start (fun q hq => dgX_hi hq hN)
  refine lc_44 (by omega) (by omega) (r := (dgX V N K R).2) (V1 := (dgX V N K R).1) (T2 := fun o n' sh' V' L' => ∃ sx' n0, 140 < n0 ∧ o = .inl (some (.long (daX (dgX V N K R).1 N K R n0).2)) ∧ sh' = SH sx' ∧ V' = (daX (dgX V N K R).1 N K R n0).1 ∧ L' = L) (fun X' T' hM' hT' => g_digest H.1 (fun l hl => by rw [(H.2.2.2.2.1.run H.K4 hl).1]; exact (H.2.2.2.2.1.run H.K4 hl).2) (fun f hf => by rw [(H.2.2.2.2.1.st f hf).2]; exact H.2.2.2.2.1.2.2.2.2.2 f hf) hM' hT') (fun X' hM' => m_digest S.2.2.1 (Nat.le_refl 21) (Nat.le_refl 138) hM' (fun n' sx' n0 hn => ⟨sx', n0, hn, rfl, rfl, rfl, rfl⟩)) (fun E n' sh' V' L' h => by obtain ⟨_, _, _, h, _⟩ := h; cases h) (fun v n' sh' V' L' h => ?_)
  obtain ⟨sx', n0, hn, ev, rfl, rfl, rfl⟩ := h
  cases ev
  obtain ⟨P, e⟩ := S.digest (n := n0) (by omega) hn
  exact ⟨sx', by rw [e], rfl, rfl, j_wk (by omega) (by omega) (next n' sx' _ _ _ _ _ _ _ _ _ _ (P.self (fun q hq => (daX_lo (by omega) hn).trans (t0_out (by omega)))) (by omega))⟩
