/-! ===== the law from its first byte ===== -/
theorem law_start {g : jv_G} {X : jv_X} {V : Nat → Nat → Int32} {L : Nat → Nat → Int64} {k : Nat} (hk : 110000 ≤ k) (fin : ∀ ls n sh V L k z, jv_J g X I_L_law 1044 ls [.int (nI 1)] n sh V L k z) : jv_J g X I_L_law 0 [some (.ref (scB g)), none, none, none, none, none, none, none, none, none, none, none, none, none, none, none, none, none, none] [] 0 (PS 0 (fun _ => 0)) V L (123 + k) (1400 + 20 * k) := by
  refine jv_new (k2 := 122 + k) (z2 := 1394 + 20 * k) jv_cls4 (jv_gwm 29 (by decide +kernel) rfl) (jv_gwm 30 (by decide +kernel) rfl) (jv_gwm 14 (by decide +kernel) rfl) (by decide +kernel) dL_law_0 (by omega) (by omega) ?_
  rw [PS_ns (K := 4 + 1) (N := 0) (r0 := 0) sk_0 rfl (fun k h => absurd h (Nat.not_lt_zero k))]
  refine j_dup rfl dL_law_3 ?_
  generalize hg1 : upf (fun _ => 0) 0 0 = f1
  refine R_L_116 (n1 := 0) (sh1 := fun _ => (0, 0, fun _ => none)) (V1 := fun _ _ => 0) (L1 := fun _ _ => 0) (T' := fun o n' sh' V' L' => ∃ f' U, o = .inl none ∧ n' = 123 ∧ sh' = PS 123 f' ∧ U 0 = jv_NV V 0 (fun _ => 0) 0 ∧ (∀ q, 1 ≤ q → q < 20 → V' q = layV (rstV (jv_U (jv_U U 1 0 (nI 6)) 1 1 (nI 0)) 12) 6 0 q) ∧ V' 0 4 = nI 0 ∧ V' 0 5 = nI 0 ∧ (∀ p, p < 123 → full f' p) ∧ L = L') (k' := 122) (z' := 1394) (k2 := k) (z2 := 20 * k) rfl (by decide) dL_law_4 (PS_k (by omega) sk_0) (Nat.le_of_ble_eq_true rfl) (by omega) (by omega) (fun X' hM' => k_X4 (by rw [← hg1]; exact upf_eq) hM' (fun V' f' U h1 h2 h3 h4 h5 => ⟨f', U, rfl, rfl, rfl, h1, h2, h3, h4, h5, rfl⟩)) (fun v n' sh' V' L' h => ?_) (fun E n' sh' V' L' h => by obtain ⟨_, _, h, _⟩ := h; cases h)
  obtain ⟨f2, U, ev, rfl, rfl, hU, hrow, h4, h5, hfu, rfl⟩ := h
  cases ev
  show jv_J g X I_L_law 7 _ [jv_r g 0] _ _ _ _ _ _
  have B : INV (jv_U (layV (rstV (jv_U (jv_U U 1 0 (nI 6)) 1 1 (nI 0)) 12) 6 0) 0 4 (nI 0)) (anM (fun _ _ => 0) 6) 6 0 0 0 := INV.built (by rw [hU, jv_NV_self]; exact nI_0.symm) nI_0.symm (by omega) (by omega)
  have B2 : INV V' (anM (fun _ _ => 0) 6) 6 0 0 0 := B.bare (by rw [h4, jv_Ueq]) (by rw [h5, jv_Unj (by omega)]; exact B.2.1.symm.trans (jv_Unj (by omega))) (fun q q1 q2 => by rw [jv_U_other (by omega)]; exact hrow q q1 q2) rfl
  rw [PS_123 hfu]
  exact c_law7 (t0 := 0) ⟨⟨_, B2⟩, fun j hj => absurd hj (Nat.not_lt_zero j)⟩ h5 (by decide) hk fin
