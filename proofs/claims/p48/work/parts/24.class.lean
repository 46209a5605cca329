/-! ===== the class's own methods ===== -/
/-- floors, lifts, rumours: how many -/
def Ct (V : Nat → Nat → Int32) (N K R : Nat) : Prop := V 1 0 = nI N ∧ V 1 1 = nI K ∧ V 0 4 = nI R ∧ 2 ≤ N ∧ N ≤ 12 ∧ K ≤ 4 ∧ R ≤ 8
theorem Ct.to {V W : Nat → Nat → Int32} {N K R : Nat} (h : Ct V N K R) (h0 : W 0 4 = V 0 4) (h1 : W 1 = V 1) : Ct W N K R := by
  obtain ⟨a, b, c, d⟩ := h
  exact ⟨by rw [h1]; exact a, by rw [h1]; exact b, by rw [h0]; exact c, d⟩
theorem Ct.o {V W : Nat → Nat → Int32} {N K R : Nat} (h : Ct V N K R) (h0 : W 0 = V 0) (h1 : W 1 = V 1) : Ct W N K R := h.to (by rw [h0]) h1
theorem X_X4_41 {g : jv_G} {X : jv_X} {I : jv_I} {pc n : Nat} {ls : List (Option Value)} {st : List Value} {sh : Nat → jv_S} {V : Nat → Nat → Int32} {L : Nat → Nat → Int64} {k z : Nat} {n1 : Nat} {sh1 : Nat → jv_S} {V1 : Nat → Nat → Int32} {L1 : Nat → Nat → Int64} {x1 x2 x3 : Int32} {k' z' k2 z2 : Nat} {E : String} (hI : jo I = RX4) (hlv : jd I_X4_needArgument + 1 ≤ jd I) (d : decode (jb I) pc = .ok (.invokestatic 41, 3)) (hcat : (st.map fun v => v.category).sum ≤ 8) (hk : k' + k2 ≤ k) (hz : z' + z2 ≤ z) (body : ∀ X' T', jv_M g X' T' → (∀ n', n ≤ n' → T' (.inr E) n' sh V L) → jv_J g X' I_X4_needArgument 0 [some (.int x1), some (.int x2), some (.int x3)] [] n sh V L k' z') (kx : ∀ n', n ≤ n' → jv_Th g X I pc ls st E n' sh V L k2 z2) : jv_J g X I pc ls ((.int x3) :: (.int x2) :: (.int x1) :: st) n sh V L k z :=
  R_X4_41 (n1 := n1) (sh1 := sh1) (V1 := V1) (L1 := L1) (T' := (fun o n' s' V' L' => o = .inr E ∧ n ≤ n' ∧ s' = sh ∧ V' = V ∧ L' = L)) hI hlv d hcat hk hz (fun X' hM => body X' _ hM (fun n' hn' => ⟨rfl, hn', rfl, rfl, rfl⟩)) (fun v n' s' V' L' h => by cases h.1) (fun E n' s' V' L' h => by obtain ⟨h1, h2, rfl, rfl, rfl⟩ := h; cases h1; exact kx n' h2)
def nb (x : Int32) : Int32 := if x = 0 then nI 1 else nI 0
theorem nb01 (x : Int32) : nb x = 0 ∨ nb x = 1 := by
  unfold nb
  split
  · exact Or.inr (by decide +kernel)
  · exact Or.inl (by decide +kernel)
theorem bz01 (b : Bool) : bz b = 0 ∨ bz b = 1 := by
  cases b
  · exact Or.inl (by decide +kernel)
  · exact Or.inr (by decide +kernel)
theorem nI01a : nI 0 = 0 ∨ nI 0 = 1 := Or.inl nI_0
theorem nI01b : nI 1 = 0 ∨ nI 1 = 1 := Or.inr (by decide +kernel)
theorem cpR_out {V : Nat → Nat → Int32} {s r q : Nat} (h : q < r ∨ r + 9 < q) : cpR V s r q = V q := by
  funext c
  unfold cpR jv_cpy jv_U
  simp only [if_neg (show ¬ q = r + 9 by omega), if_neg (show ¬ q = r + 8 by omega), if_neg (show ¬ q = r + 7 by omega), if_neg (show ¬ q = r + 6 by omega), if_neg (show ¬ q = r + 5 by omega), if_neg (show ¬ q = r + 4 by omega), if_neg (show ¬ q = r + 3 by omega), if_neg (show ¬ q = r + 2 by omega), if_neg (show ¬ q = r + 1 by omega), if_neg (show ¬ q = r by omega)]
/-- the trial: a copy, looked ahead -/
def triV (V : Nat → Nat → Int32) (N j : Nat) : Nat → Nat → Int32 := laV 33 N (V 0 5) 100 0 (cpR V (43 + 10 * j) 33)
def triD (V : Nat → Nat → Int32) (N j f : Nat) : Nat → Nat → Int32 := laV 33 N (V 0 5) 100 0 (brD (cpR V (43 + 10 * j) 33) 33 f (V 0 5))
theorem triV_out {V : Nat → Nat → Int32} {N j q : Nat} (h : q < 33 ∨ 43 ≤ q) : triV V N j q = V q := by
  unfold triV
  rw [laV_out (by unfold Rout; omega), cpR_out (by omega)]
theorem triD_out {V : Nat → Nat → Int32} {N j f q : Nat} (h : q < 33 ∨ 43 ≤ q) : triD V N j f q = V q := by
  unfold triD
  rw [laV_out (by unfold Rout; omega), brD_out (by unfold Rout; omega), cpR_out (by omega)]

set_option maxHeartbeats 4000000 in
set_option maxRecDepth 100000 in
theorem g_build {sx : Nat → jv_S} {g : jv_G} {X : jv_X} {T : jv_T} {n : Nat} {V : Nat → Nat → Int32} {L : Nat → Nat → Int64} {k z : Nat} {m : Nat} (hm2 : 2 ≤ m) (hm : m ≤ 12) (hM : jv_M g X T) (hT : T (.inl (some (.int (nI (m - 1))))) n (SH sx) (jv_U (layV (rstV (jv_U (jv_U V 1 0 (nI m)) 1 1 (nI 0)) 12) m 0) 0 4 (nI 0)) L) : jv_J g X I_X4_build 0 [some (jv_r g 0), some (.int (nI m))] [] n (SH sx) V L k z := by
  refine j_iload_n_1 dX4_build_0 ?_
  refine j_iconst (v := nI 2) dX4_build_1 nc_iconst_2 ?_
  refine j_bipush (v := nI 12) dX4_build_2 nc_bipush_12 ?_
  refine C_X4_41 rfl (by decide) dX4_build_4 (Nat.le_of_ble_eq_true rfl) (Nat.le_of_eq (Nat.zero_add _)) (Nat.le_of_eq (Nat.zero_add _)) (fun _ _ hM' hT' => c_needArgument (nI_nlt hm2 (by omega)) (nI_le hm (by omega)) hM' hT') ?_
  refine j_aload_n_0 dX4_build_7 ?_
  refine G_X4_10 rfl dX4_build_8 sk_0 sr_0_0 ?_
  refine j_iload_n_1 dX4_build_11 ?_
  refine C_X4_45 rfl (by decide) dX4_build_12 sk_1 (Nat.le_of_ble_eq_true rfl) (Nat.le_of_eq (Nat.zero_add _)) (Nat.le_of_eq (Nat.zero_add _)) (fun _ _ hM' hT' => c_reset hm hM' hT') ?_
  refine j_aload_n_0 dX4_build_15 ?_
  refine j_iconst (v := nI 0) dX4_build_16 nc_iconst_0 ?_
  refine P_X4_34 rfl dX4_build_17 sk_0 ?_
  refine j_iload_n_1 dX4_build_20 ?_
  refine j_iconst (v := nI 1) dX4_build_21 nc_iconst_1 ?_
  refine j_isubN (by omega) dX4_build_22 ?_
  exact j_iret hM dX4_build_23 rfl hT

set_option maxHeartbeats 4000000 in
set_option maxRecDepth 100000 in
theorem e_build_4 {sx : Nat → jv_S} {g : jv_G} {X : jv_X} {T : jv_T} {n : Nat} {V : Nat → Nat → Int32} {L : Nat → Nat → Int64} {k z : Nat} {x : Int32} (hx : x < nI 2 ∨ nI 12 < x) (hk : 1 ≤ k) (hz : 6 ≤ z) (hM : jv_M g X T) (hX : ∀ n', n ≤ n' → T (.inr "java/lang/IllegalArgumentException") n' (SH sx) V L) : jv_J g X I_X4_build 0 [some (jv_r g 0), some (.int x)] [] n (SH sx) V L k z := by
  refine j_iload_n_1 dX4_build_0 ?_
  refine j_iconst (v := nI 2) dX4_build_1 nc_iconst_2 ?_
  refine j_bipush (v := nI 12) dX4_build_2 nc_bipush_12 ?_
  exact X_X4_41 (n1 := 0) (sh1 := fun _ => (0, 0, fun _ => none)) (V1 := fun _ _ => 0) (L1 := fun _ _ => 0) rfl (by decide) dX4_build_4 (Nat.le_of_ble_eq_true rfl) (show 1 + 0 ≤ k from hk) (show 6 + 0 ≤ z from hz) (fun _ _ hM' hT' => b_needArgument hx (Nat.le_refl 1) (Nat.le_refl 6) hM' hT') (fun n' hn' => j_out hM rfl (hX n' hn'))

set_option maxHeartbeats 4000000 in
set_option maxRecDepth 100000 in
theorem g_setStay {sx : Nat → jv_S} {g : jv_G} {X : jv_X} {T : jv_T} {n : Nat} {V : Nat → Nat → Int32} {L : Nat → Nat → Int64} {k z : Nat} {N K R : Nat} (hC : Ct V N K R) {f : Nat} (hf : (f < N)) {x : Int32} (hAx : ¬ x < nI 0) (hBx : x ≤ nI 9)  (hM : jv_M g X T) (hT : T (.inl (some (.int (V 3 f)))) n (SH sx) (jv_U V 3 f x) L) : jv_J g X I_X4_setStay 0 [some (jv_r g 0), some (.int (nI f)), some (.int x), none] [] n (SH sx) V L k z := by
  obtain ⟨hN, hK, hR, hN2, hb, hK4, hR8⟩ := id hC
  refine j_aload_n_0 dX4_setStay_0 ?_
  refine j_iload_n_1 dX4_setStay_1 ?_
  refine C_X4_49 rfl (by decide) dX4_setStay_2 sk_0 (Nat.le_of_ble_eq_true rfl) (Nat.le_of_eq (Nat.zero_add _)) (Nat.le_of_eq (Nat.zero_add _)) (fun _ _ hM' hT' => c_needFloor hN hf hb hM' hT') ?_
  refine j_iload_n_2 dX4_setStay_5 ?_
  refine j_iconst (v := nI 0) dX4_setStay_6 nc_iconst_0 ?_
  refine j_bipush (v := nI 9) dX4_setStay_7 nc_bipush_9 ?_
  refine C_X4_41 rfl (by decide) dX4_setStay_9 (Nat.le_of_ble_eq_true rfl) (Nat.le_of_eq (Nat.zero_add _)) (Nat.le_of_eq (Nat.zero_add _)) (fun _ _ hM' hT' => c_needArgument hAx hBx hM' hT') ?_
  refine j_aload_n_0 dX4_setStay_12 ?_
  refine G_X4_10 rfl dX4_setStay_13 sk_0 sr_0_0 ?_
  refine G_X4_52 rfl dX4_setStay_16 sk_1 sr_1_3 ?_
  refine j_iload_n_1 dX4_setStay_19 ?_
  refine j_iald dX4_setStay_20 sk_3 sn_3 (by omega) (by decide) ?_
  refine j_istore_n_3 rfl (by decide) dX4_setStay_21 ?_
  refine j_aload_n_0 dX4_setStay_22 ?_
  refine G_X4_10 rfl dX4_setStay_23 sk_0 sr_0_0 ?_
  refine G_X4_52 rfl dX4_setStay_26 sk_1 sr_1_3 ?_
  refine j_iload_n_1 dX4_setStay_29 ?_
  refine j_iload_n_2 dX4_setStay_30 ?_
  refine j_iast dX4_setStay_31 sk_3 sn_3 (by omega) (by decide) ?_
  refine j_iload_n_3 dX4_setStay_32 ?_
  exact j_iret hM dX4_setStay_33 rfl hT

set_option maxHeartbeats 4000000 in
set_option maxRecDepth 100000 in
theorem e_setStay_2 {sx : Nat → jv_S} {g : jv_G} {X : jv_X} {T : jv_T} {n : Nat} {V : Nat → Nat → Int32} {L : Nat → Nat → Int64} {k z : Nat} {N K R : Nat} (hC : Ct V N K R) {f : Int32} {x : Int32} (hx : f < 0 ∨ nI N ≤ f) (hk : 1 ≤ k) (hz : 6 ≤ z) (hM : jv_M g X T) (hX : ∀ n', n ≤ n' → T (.inr "java/lang/IndexOutOfBoundsException") n' (SH sx) V L) : jv_J g X I_X4_setStay 0 [some (jv_r g 0), some (.int f), some (.int x), none] [] n (SH sx) V L k z := by
  obtain ⟨hN, hK, hR, hN2, hb, hK4, hR8⟩ := id hC
  refine j_aload_n_0 dX4_setStay_0 ?_
  refine j_iload_n_1 dX4_setStay_1 ?_
  exact X_X4_49 (n1 := 0) (sh1 := fun _ => (0, 0, fun _ => none)) (V1 := fun _ _ => 0) (L1 := fun _ _ => 0) rfl (by decide) dX4_setStay_2 sk_0 (Nat.le_of_ble_eq_true rfl) (show 1 + 0 ≤ k from hk) (show 6 + 0 ≤ z from hz) (fun _ _ hM' hT' => b_needFloor hN hb hx (Nat.le_refl 1) (Nat.le_refl 6) hM' hT') (fun n' hn' => j_out hM rfl (hX n' hn'))

set_option maxHeartbeats 4000000 in
set_option maxRecDepth 100000 in
theorem e_setStay_9 {sx : Nat → jv_S} {g : jv_G} {X : jv_X} {T : jv_T} {n : Nat} {V : Nat → Nat → Int32} {L : Nat → Nat → Int64} {k z : Nat} {N K R : Nat} (hC : Ct V N K R) {f : Nat} (hf : (f < N)) {x : Int32} (hx : x < nI 0 ∨ nI 9 < x) (hk : 1 ≤ k) (hz : 6 ≤ z) (hM : jv_M g X T) (hX : ∀ n', n ≤ n' → T (.inr "java/lang/IllegalArgumentException") n' (SH sx) V L) : jv_J g X I_X4_setStay 0 [some (jv_r g 0), some (.int (nI f)), some (.int x), none] [] n (SH sx) V L k z := by
  obtain ⟨hN, hK, hR, hN2, hb, hK4, hR8⟩ := id hC
  refine j_aload_n_0 dX4_setStay_0 ?_
  refine j_iload_n_1 dX4_setStay_1 ?_
  refine C_X4_49 rfl (by decide) dX4_setStay_2 sk_0 (Nat.le_of_ble_eq_true rfl) (Nat.le_of_eq (Nat.zero_add _)) (Nat.le_of_eq (Nat.zero_add _)) (fun _ _ hM' hT' => c_needFloor hN hf hb hM' hT') ?_
  refine j_iload_n_2 dX4_setStay_5 ?_
  refine j_iconst (v := nI 0) dX4_setStay_6 nc_iconst_0 ?_
  refine j_bipush (v := nI 9) dX4_setStay_7 nc_bipush_9 ?_
  exact X_X4_41 (n1 := 0) (sh1 := fun _ => (0, 0, fun _ => none)) (V1 := fun _ _ => 0) (L1 := fun _ _ => 0) rfl (by decide) dX4_setStay_9 (Nat.le_of_ble_eq_true rfl) (show 1 + 0 ≤ k from hk) (show 6 + 0 ≤ z from hz) (fun _ _ hM' hT' => b_needArgument hx (Nat.le_refl 1) (Nat.le_refl 6) hM' hT') (fun n' hn' => j_out hM rfl (hX n' hn'))

set_option maxHeartbeats 4000000 in
set_option maxRecDepth 100000 in
theorem g_setHeads {sx : Nat → jv_S} {g : jv_G} {X : jv_X} {T : jv_T} {n : Nat} {V : Nat → Nat → Int32} {L : Nat → Nat → Int64} {k z : Nat} {N K R : Nat} (hC : Ct V N K R) {f : Nat} (hf : (f < N)) {x : Int32} (hAx : ¬ x < nI 0) (hBx : x ≤ nI 99)  (hM : jv_M g X T) (hT : T (.inl (some (.int (V 2 f)))) n (SH sx) (jv_U V 2 f x) L) : jv_J g X I_X4_setHeads 0 [some (jv_r g 0), some (.int (nI f)), some (.int x), none] [] n (SH sx) V L k z := by
  obtain ⟨hN, hK, hR, hN2, hb, hK4, hR8⟩ := id hC
  refine j_aload_n_0 dX4_setHeads_0 ?_
  refine j_iload_n_1 dX4_setHeads_1 ?_
  refine C_X4_49 rfl (by decide) dX4_setHeads_2 sk_0 (Nat.le_of_ble_eq_true rfl) (Nat.le_of_eq (Nat.zero_add _)) (Nat.le_of_eq (Nat.zero_add _)) (fun _ _ hM' hT' => c_needFloor hN hf hb hM' hT') ?_
  refine j_iload_n_2 dX4_setHeads_5 ?_
  refine j_iconst (v := nI 0) dX4_setHeads_6 nc_iconst_0 ?_
  refine j_bipush (v := nI 99) dX4_setHeads_7 nc_bipush_99 ?_
  refine C_X4_41 rfl (by decide) dX4_setHeads_9 (Nat.le_of_ble_eq_true rfl) (Nat.le_of_eq (Nat.zero_add _)) (Nat.le_of_eq (Nat.zero_add _)) (fun _ _ hM' hT' => c_needArgument hAx hBx hM' hT') ?_
  refine j_aload_n_0 dX4_setHeads_12 ?_
  refine G_X4_10 rfl dX4_setHeads_13 sk_0 sr_0_0 ?_
  refine G_X4_56 rfl dX4_setHeads_16 sk_1 sr_1_2 ?_
  refine j_iload_n_1 dX4_setHeads_19 ?_
  refine j_iald dX4_setHeads_20 sk_2 sn_2 (by omega) (by decide) ?_
  refine j_istore_n_3 rfl (by decide) dX4_setHeads_21 ?_
  refine j_aload_n_0 dX4_setHeads_22 ?_
  refine G_X4_10 rfl dX4_setHeads_23 sk_0 sr_0_0 ?_
  refine G_X4_56 rfl dX4_setHeads_26 sk_1 sr_1_2 ?_
  refine j_iload_n_1 dX4_setHeads_29 ?_
  refine j_iload_n_2 dX4_setHeads_30 ?_
  refine j_iast dX4_setHeads_31 sk_2 sn_2 (by omega) (by decide) ?_
  refine j_iload_n_3 dX4_setHeads_32 ?_
  exact j_iret hM dX4_setHeads_33 rfl hT

set_option maxHeartbeats 4000000 in
set_option maxRecDepth 100000 in
theorem e_setHeads_2 {sx : Nat → jv_S} {g : jv_G} {X : jv_X} {T : jv_T} {n : Nat} {V : Nat → Nat → Int32} {L : Nat → Nat → Int64} {k z : Nat} {N K R : Nat} (hC : Ct V N K R) {f : Int32} {x : Int32} (hx : f < 0 ∨ nI N ≤ f) (hk : 1 ≤ k) (hz : 6 ≤ z) (hM : jv_M g X T) (hX : ∀ n', n ≤ n' → T (.inr "java/lang/IndexOutOfBoundsException") n' (SH sx) V L) : jv_J g X I_X4_setHeads 0 [some (jv_r g 0), some (.int f), some (.int x), none] [] n (SH sx) V L k z := by
  obtain ⟨hN, hK, hR, hN2, hb, hK4, hR8⟩ := id hC
  refine j_aload_n_0 dX4_setHeads_0 ?_
  refine j_iload_n_1 dX4_setHeads_1 ?_
  exact X_X4_49 (n1 := 0) (sh1 := fun _ => (0, 0, fun _ => none)) (V1 := fun _ _ => 0) (L1 := fun _ _ => 0) rfl (by decide) dX4_setHeads_2 sk_0 (Nat.le_of_ble_eq_true rfl) (show 1 + 0 ≤ k from hk) (show 6 + 0 ≤ z from hz) (fun _ _ hM' hT' => b_needFloor hN hb hx (Nat.le_refl 1) (Nat.le_refl 6) hM' hT') (fun n' hn' => j_out hM rfl (hX n' hn'))

set_option maxHeartbeats 4000000 in
set_option maxRecDepth 100000 in
theorem e_setHeads_9 {sx : Nat → jv_S} {g : jv_G} {X : jv_X} {T : jv_T} {n : Nat} {V : Nat → Nat → Int32} {L : Nat → Nat → Int64} {k z : Nat} {N K R : Nat} (hC : Ct V N K R) {f : Nat} (hf : (f < N)) {x : Int32} (hx : x < nI 0 ∨ nI 99 < x) (hk : 1 ≤ k) (hz : 6 ≤ z) (hM : jv_M g X T) (hX : ∀ n', n ≤ n' → T (.inr "java/lang/IllegalArgumentException") n' (SH sx) V L) : jv_J g X I_X4_setHeads 0 [some (jv_r g 0), some (.int (nI f)), some (.int x), none] [] n (SH sx) V L k z := by
  obtain ⟨hN, hK, hR, hN2, hb, hK4, hR8⟩ := id hC
  refine j_aload_n_0 dX4_setHeads_0 ?_
  refine j_iload_n_1 dX4_setHeads_1 ?_
  refine C_X4_49 rfl (by decide) dX4_setHeads_2 sk_0 (Nat.le_of_ble_eq_true rfl) (Nat.le_of_eq (Nat.zero_add _)) (Nat.le_of_eq (Nat.zero_add _)) (fun _ _ hM' hT' => c_needFloor hN hf hb hM' hT') ?_
  refine j_iload_n_2 dX4_setHeads_5 ?_
  refine j_iconst (v := nI 0) dX4_setHeads_6 nc_iconst_0 ?_
  refine j_bipush (v := nI 99) dX4_setHeads_7 nc_bipush_99 ?_
  exact X_X4_41 (n1 := 0) (sh1 := fun _ => (0, 0, fun _ => none)) (V1 := fun _ _ => 0) (L1 := fun _ _ => 0) rfl (by decide) dX4_setHeads_9 (Nat.le_of_ble_eq_true rfl) (show 1 + 0 ≤ k from hk) (show 6 + 0 ≤ z from hz) (fun _ _ hM' hT' => b_needArgument hx (Nat.le_refl 1) (Nat.le_refl 6) hM' hT') (fun n' hn' => j_out hM rfl (hX n' hn'))

set_option maxHeartbeats 4000000 in
set_option maxRecDepth 100000 in
theorem g_setStairs {sx : Nat → jv_S} {g : jv_G} {X : jv_X} {T : jv_T} {n : Nat} {V : Nat → Nat → Int32} {L : Nat → Nat → Int64} {k z : Nat} {N K R : Nat} (hC : Ct V N K R) {f : Nat} (hf : (f + 1 < N)) {x : Int32} (hAx : ¬ x < nI 1) (hBx : x ≤ nI 9)  (hM : jv_M g X T) (hT : T (.inl (some (.int (V 4 f)))) n (SH sx) (layV (jv_U V 4 f x) N K) L) : jv_J g X I_X4_setStairs 0 [some (jv_r g 0), some (.int (nI f)), some (.int x), none] [] n (SH sx) V L k z := by
  obtain ⟨hN, hK, hR, hN2, hb, hK4, hR8⟩ := id hC
  refine j_aload_n_0 dX4_setStairs_0 ?_
  refine j_iload_n_1 dX4_setStairs_1 ?_
  refine C_X4_59 rfl (by decide) dX4_setStairs_2 sk_0 (Nat.le_of_ble_eq_true rfl) (Nat.le_of_eq (Nat.zero_add _)) (Nat.le_of_eq (Nat.zero_add _)) (fun _ _ hM' hT' => c_needStairs hN hf hb hM' hT') ?_
  refine j_iload_n_2 dX4_setStairs_5 ?_
  refine j_iconst (v := nI 1) dX4_setStairs_6 nc_iconst_1 ?_
  refine j_bipush (v := nI 9) dX4_setStairs_7 nc_bipush_9 ?_
  refine C_X4_41 rfl (by decide) dX4_setStairs_9 (Nat.le_of_ble_eq_true rfl) (Nat.le_of_eq (Nat.zero_add _)) (Nat.le_of_eq (Nat.zero_add _)) (fun _ _ hM' hT' => c_needArgument hAx hBx hM' hT') ?_
  refine j_aload_n_0 dX4_setStairs_12 ?_
  refine G_X4_10 rfl dX4_setStairs_13 sk_0 sr_0_0 ?_
  refine G_X4_62 rfl dX4_setStairs_16 sk_1 sr_1_4 ?_
  refine j_iload_n_1 dX4_setStairs_19 ?_
  refine j_iald dX4_setStairs_20 sk_4 sn_4 (by omega) (by decide) ?_
  refine j_istore_n_3 rfl (by decide) dX4_setStairs_21 ?_
  refine j_aload_n_0 dX4_setStairs_22 ?_
  refine G_X4_10 rfl dX4_setStairs_23 sk_0 sr_0_0 ?_
  refine G_X4_62 rfl dX4_setStairs_26 sk_1 sr_1_4 ?_
  refine j_iload_n_1 dX4_setStairs_29 ?_
  refine j_iload_n_2 dX4_setStairs_30 ?_
  refine j_iast dX4_setStairs_31 sk_4 sn_4 (by omega) (by decide) ?_
  refine j_aload_n_0 dX4_setStairs_32 ?_
  refine G_X4_10 rfl dX4_setStairs_33 sk_0 sr_0_0 ?_
  refine C_X4_65 rfl (by decide) dX4_setStairs_36 sk_1 (Nat.le_of_ble_eq_true rfl) (Nat.le_of_eq (Nat.zero_add _)) (Nat.le_of_eq (Nat.zero_add _)) (fun _ _ hM' hT' => c_layPipes (by rw [jv_Une (by omega)]; exact hN) hb (by rw [jv_Une (by omega)]; exact hK) hK4 hM' hT') ?_
  refine j_iload_n_3 dX4_setStairs_39 ?_
  exact j_iret hM dX4_setStairs_40 rfl hT

set_option maxHeartbeats 4000000 in
set_option maxRecDepth 100000 in
theorem e_setStairs_2 {sx : Nat → jv_S} {g : jv_G} {X : jv_X} {T : jv_T} {n : Nat} {V : Nat → Nat → Int32} {L : Nat → Nat → Int64} {k z : Nat} {N K R : Nat} (hC : Ct V N K R) {f : Int32} {x : Int32} (hx : f < 0 ∨ nI (N - 1) ≤ f) (hk : 1 ≤ k) (hz : 6 ≤ z) (hM : jv_M g X T) (hX : ∀ n', n ≤ n' → T (.inr "java/lang/IndexOutOfBoundsException") n' (SH sx) V L) : jv_J g X I_X4_setStairs 0 [some (jv_r g 0), some (.int f), some (.int x), none] [] n (SH sx) V L k z := by
  obtain ⟨hN, hK, hR, hN2, hb, hK4, hR8⟩ := id hC
  refine j_aload_n_0 dX4_setStairs_0 ?_
  refine j_iload_n_1 dX4_setStairs_1 ?_
  exact X_X4_59 (n1 := 0) (sh1 := fun _ => (0, 0, fun _ => none)) (V1 := fun _ _ => 0) (L1 := fun _ _ => 0) rfl (by decide) dX4_setStairs_2 sk_0 (Nat.le_of_ble_eq_true rfl) (show 1 + 0 ≤ k from hk) (show 6 + 0 ≤ z from hz) (fun _ _ hM' hT' => b_needStairs hN (by omega) hb hx (Nat.le_refl 1) (Nat.le_refl 6) hM' hT') (fun n' hn' => j_out hM rfl (hX n' hn'))

set_option maxHeartbeats 4000000 in
set_option maxRecDepth 100000 in
theorem e_setStairs_9 {sx : Nat → jv_S} {g : jv_G} {X : jv_X} {T : jv_T} {n : Nat} {V : Nat → Nat → Int32} {L : Nat → Nat → Int64} {k z : Nat} {N K R : Nat} (hC : Ct V N K R) {f : Nat} (hf : (f + 1 < N)) {x : Int32} (hx : x < nI 1 ∨ nI 9 < x) (hk : 1 ≤ k) (hz : 6 ≤ z) (hM : jv_M g X T) (hX : ∀ n', n ≤ n' → T (.inr "java/lang/IllegalArgumentException") n' (SH sx) V L) : jv_J g X I_X4_setStairs 0 [some (jv_r g 0), some (.int (nI f)), some (.int x), none] [] n (SH sx) V L k z := by
  obtain ⟨hN, hK, hR, hN2, hb, hK4, hR8⟩ := id hC
  refine j_aload_n_0 dX4_setStairs_0 ?_
  refine j_iload_n_1 dX4_setStairs_1 ?_
  refine C_X4_59 rfl (by decide) dX4_setStairs_2 sk_0 (Nat.le_of_ble_eq_true rfl) (Nat.le_of_eq (Nat.zero_add _)) (Nat.le_of_eq (Nat.zero_add _)) (fun _ _ hM' hT' => c_needStairs hN hf hb hM' hT') ?_
  refine j_iload_n_2 dX4_setStairs_5 ?_
  refine j_iconst (v := nI 1) dX4_setStairs_6 nc_iconst_1 ?_
  refine j_bipush (v := nI 9) dX4_setStairs_7 nc_bipush_9 ?_
  exact X_X4_41 (n1 := 0) (sh1 := fun _ => (0, 0, fun _ => none)) (V1 := fun _ _ => 0) (L1 := fun _ _ => 0) rfl (by decide) dX4_setStairs_9 (Nat.le_of_ble_eq_true rfl) (show 1 + 0 ≤ k from hk) (show 6 + 0 ≤ z from hz) (fun _ _ hM' hT' => b_needArgument hx (Nat.le_refl 1) (Nat.le_refl 6) hM' hT') (fun n' hn' => j_out hM rfl (hX n' hn'))

set_option maxHeartbeats 4000000 in
set_option maxRecDepth 100000 in
theorem g_turnStairs {sx : Nat → jv_S} {g : jv_G} {X : jv_X} {T : jv_T} {n : Nat} {V : Nat → Nat → Int32} {L : Nat → Nat → Int64} {k z : Nat} {N K R : Nat} (hC : Ct V N K R) {f : Nat} (hf : (f + 1 < N))  (hM : jv_M g X T) (hT : T (.inl (some (.int (nb (V 5 f))))) n (SH sx) (layV (jv_U V 5 f (nb (V 5 f))) N K) L) : jv_J g X I_X4_turnStairs 0 [some (jv_r g 0), some (.int (nI f))] [] n (SH sx) V L k z := by
  obtain ⟨hN, hK, hR, hN2, hb, hK4, hR8⟩ := id hC
  refine j_aload_n_0 dX4_turnStairs_0 ?_
  refine j_iload_n_1 dX4_turnStairs_1 ?_
  refine C_X4_59 rfl (by decide) dX4_turnStairs_2 sk_0 (Nat.le_of_ble_eq_true rfl) (Nat.le_of_eq (Nat.zero_add _)) (Nat.le_of_eq (Nat.zero_add _)) (fun _ _ hM' hT' => c_needStairs hN hf hb hM' hT') ?_
  refine j_aload_n_0 dX4_turnStairs_5 ?_
  refine G_X4_10 rfl dX4_turnStairs_6 sk_0 sr_0_0 ?_
  refine j_iload_n_1 dX4_turnStairs_9 ?_
  refine j_aload_n_0 dX4_turnStairs_10 ?_
  refine G_X4_10 rfl dX4_turnStairs_11 sk_0 sr_0_0 ?_
  refine G_X4_68 rfl dX4_turnStairs_14 sk_1 sr_1_5 ?_
  refine j_iload_n_1 dX4_turnStairs_17 ?_
  refine j_bald dX4_turnStairs_18 sk_5 sn_5 (by omega) (by decide) ?_
  refine j_if_ne (tgt := 26) dX4_turnStairs_19 (by decide) (fun h19 => ?_) (fun h19 => ?_)
  · refine j_iconst (v := nI 0) dX4_turnStairs_26 nc_iconst_0 ?_
    refine j_top (y := nb (V 5 f)) (by unfold nb; rw [if_neg h19]) ?_
    refine C_X4_72 rfl (by decide) dX4_turnStairs_27 sk_1 (Nat.le_of_ble_eq_true rfl) (Nat.le_of_eq (Nat.zero_add _)) (Nat.le_of_eq (Nat.zero_add _)) (fun _ _ hM' hT' => c_letStairs hN hb hK hK4 (by omega) (nb01 _) hM' hT') ?_
    refine j_aload_n_0 dX4_turnStairs_30 ?_
    refine G_X4_10 rfl dX4_turnStairs_31 sk_0 sr_0_0 ?_
    refine G_X4_68 rfl dX4_turnStairs_34 sk_1 sr_1_5 ?_
    refine j_iload_n_1 dX4_turnStairs_37 ?_
    refine j_bald dX4_turnStairs_38 sk_5 sn_5 (by omega) (by decide) ?_
    refine j_top (y := nb (V 5 f)) (by rw [layV_out (by omega), jv_Ueq]) ?_
    exact j_zret hM dX4_turnStairs_39 rfl (jv_b01 (nb01 _)) hT
  · refine j_iconst (v := nI 1) dX4_turnStairs_22 nc_iconst_1 ?_
    refine j_top (y := nb (V 5 f)) (by unfold nb; rw [if_pos h19]) ?_
    refine j_goto (tgt := 27) dX4_turnStairs_23 (by decide) ?_
    refine C_X4_72 rfl (by decide) dX4_turnStairs_27 sk_1 (Nat.le_of_ble_eq_true rfl) (Nat.le_of_eq (Nat.zero_add _)) (Nat.le_of_eq (Nat.zero_add _)) (fun _ _ hM' hT' => c_letStairs hN hb hK hK4 (by omega) (nb01 _) hM' hT') ?_
    refine j_aload_n_0 dX4_turnStairs_30 ?_
    refine G_X4_10 rfl dX4_turnStairs_31 sk_0 sr_0_0 ?_
    refine G_X4_68 rfl dX4_turnStairs_34 sk_1 sr_1_5 ?_
    refine j_iload_n_1 dX4_turnStairs_37 ?_
    refine j_bald dX4_turnStairs_38 sk_5 sn_5 (by omega) (by decide) ?_
    refine j_top (y := nb (V 5 f)) (by rw [layV_out (by omega), jv_Ueq]) ?_
    exact j_zret hM dX4_turnStairs_39 rfl (jv_b01 (nb01 _)) hT

set_option maxHeartbeats 4000000 in
set_option maxRecDepth 100000 in
theorem e_turnStairs_2 {sx : Nat → jv_S} {g : jv_G} {X : jv_X} {T : jv_T} {n : Nat} {V : Nat → Nat → Int32} {L : Nat → Nat → Int64} {k z : Nat} {N K R : Nat} (hC : Ct V N K R) {f : Int32} (hx : f < 0 ∨ nI (N - 1) ≤ f) (hk : 1 ≤ k) (hz : 6 ≤ z) (hM : jv_M g X T) (hX : ∀ n', n ≤ n' → T (.inr "java/lang/IndexOutOfBoundsException") n' (SH sx) V L) : jv_J g X I_X4_turnStairs 0 [some (jv_r g 0), some (.int f)] [] n (SH sx) V L k z := by
  obtain ⟨hN, hK, hR, hN2, hb, hK4, hR8⟩ := id hC
  refine j_aload_n_0 dX4_turnStairs_0 ?_
  refine j_iload_n_1 dX4_turnStairs_1 ?_
  exact X_X4_59 (n1 := 0) (sh1 := fun _ => (0, 0, fun _ => none)) (V1 := fun _ _ => 0) (L1 := fun _ _ => 0) rfl (by decide) dX4_turnStairs_2 sk_0 (Nat.le_of_ble_eq_true rfl) (show 1 + 0 ≤ k from hk) (show 6 + 0 ≤ z from hz) (fun _ _ hM' hT' => b_needStairs hN (by omega) hb hx (Nat.le_refl 1) (Nat.le_refl 6) hM' hT') (fun n' hn' => j_out hM rfl (hX n' hn'))

set_option maxHeartbeats 4000000 in
set_option maxRecDepth 100000 in
theorem e_addLift_2 {sx : Nat → jv_S} {g : jv_G} {X : jv_X} {T : jv_T} {n : Nat} {V : Nat → Nat → Int32} {L : Nat → Nat → Int64} {k z : Nat} {N K R : Nat} (hC : Ct V N K R) {lo : Int32} {hi : Int32} {ev : Int32} {w : Int32} (hx : lo < 0 ∨ nI N ≤ lo) (hk : 1 ≤ k) (hz : 6 ≤ z) (hM : jv_M g X T) (hX : ∀ n', n ≤ n' → T (.inr "java/lang/IndexOutOfBoundsException") n' (SH sx) V L) : jv_J g X I_X4_addLift 0 [some (jv_r g 0), some (.int lo), some (.int hi), some (.int ev), some (.int w)] [] n (SH sx) V L k z := by
  obtain ⟨hN, hK, hR, hN2, hb, hK4, hR8⟩ := id hC
  refine j_aload_n_0 dX4_addLift_0 ?_
  refine j_iload_n_1 dX4_addLift_1 ?_
  exact X_X4_49 (n1 := 0) (sh1 := fun _ => (0, 0, fun _ => none)) (V1 := fun _ _ => 0) (L1 := fun _ _ => 0) rfl (by decide) dX4_addLift_2 sk_0 (Nat.le_of_ble_eq_true rfl) (show 1 + 0 ≤ k from hk) (show 6 + 0 ≤ z from hz) (fun _ _ hM' hT' => b_needFloor hN hb hx (Nat.le_refl 1) (Nat.le_refl 6) hM' hT') (fun n' hn' => j_out hM rfl (hX n' hn'))

set_option maxHeartbeats 4000000 in
set_option maxRecDepth 100000 in
theorem e_addLift_7 {sx : Nat → jv_S} {g : jv_G} {X : jv_X} {T : jv_T} {n : Nat} {V : Nat → Nat → Int32} {L : Nat → Nat → Int64} {k z : Nat} {N K R : Nat} (hC : Ct V N K R) {lo : Nat} (hlo : (lo < N)) {hi : Int32} {ev : Int32} {w : Int32} (hx : hi < 0 ∨ nI N ≤ hi) (hk : 1 ≤ k) (hz : 6 ≤ z) (hM : jv_M g X T) (hX : ∀ n', n ≤ n' → T (.inr "java/lang/IndexOutOfBoundsException") n' (SH sx) V L) : jv_J g X I_X4_addLift 0 [some (jv_r g 0), some (.int (nI lo)), some (.int hi), some (.int ev), some (.int w)] [] n (SH sx) V L k z := by
  obtain ⟨hN, hK, hR, hN2, hb, hK4, hR8⟩ := id hC
  refine j_aload_n_0 dX4_addLift_0 ?_
  refine j_iload_n_1 dX4_addLift_1 ?_
  refine C_X4_49 rfl (by decide) dX4_addLift_2 sk_0 (Nat.le_of_ble_eq_true rfl) (Nat.le_of_eq (Nat.zero_add _)) (Nat.le_of_eq (Nat.zero_add _)) (fun _ _ hM' hT' => c_needFloor hN hlo hb hM' hT') ?_
  refine j_aload_n_0 dX4_addLift_5 ?_
  refine j_iload_n_2 dX4_addLift_6 ?_
  exact X_X4_49 (n1 := 0) (sh1 := fun _ => (0, 0, fun _ => none)) (V1 := fun _ _ => 0) (L1 := fun _ _ => 0) rfl (by decide) dX4_addLift_7 sk_0 (Nat.le_of_ble_eq_true rfl) (show 1 + 0 ≤ k from hk) (show 6 + 0 ≤ z from hz) (fun _ _ hM' hT' => b_needFloor hN hb hx (Nat.le_refl 1) (Nat.le_refl 6) hM' hT') (fun n' hn' => j_out hM rfl (hX n' hn'))

set_option maxHeartbeats 4000000 in
set_option maxRecDepth 100000 in
theorem g_addLift {sx : Nat → jv_S} {g : jv_G} {X : jv_X} {T : jv_T} {n : Nat} {V : Nat → Nat → Int32} {L : Nat → Nat → Int64} {k z : Nat} {N K R : Nat} (hC : Ct V N K R) {lo hi ev : Nat} (hlo : lo < N) (hhi : hi < N) {w : Int32} (hl : lo < hi) (he : 1 ≤ ev) (hev : ev ≤ hi - lo) (hA : ¬ w < nI 1) (hB : w ≤ nI 9) (hK3 : K < 4) (hM : jv_M g X T) (hT : T (.inl (some (.int (nI K)))) n (SH sx) (layV (putV V K lo hi ev w) N (K + 1)) L) : jv_J g X I_X4_addLift 0 [some (jv_r g 0), some (.int (nI lo)), some (.int (nI hi)), some (.int (nI ev)), some (.int w)] [] n (SH sx) V L k z := by
  obtain ⟨hN, hK, hR, hN2, hb, hK4, hR8⟩ := id hC
  refine j_aload_n_0 dX4_addLift_0 ?_
  refine j_iload_n_1 dX4_addLift_1 ?_
  refine C_X4_49 rfl (by decide) dX4_addLift_2 sk_0 (Nat.le_of_ble_eq_true rfl) (Nat.le_of_eq (Nat.zero_add _)) (Nat.le_of_eq (Nat.zero_add _)) (fun _ _ hM' hT' => c_needFloor hN hlo hb hM' hT') ?_
  refine j_aload_n_0 dX4_addLift_5 ?_
  refine j_iload_n_2 dX4_addLift_6 ?_
  refine C_X4_49 rfl (by decide) dX4_addLift_7 sk_0 (Nat.le_of_ble_eq_true rfl) (Nat.le_of_eq (Nat.zero_add _)) (Nat.le_of_eq (Nat.zero_add _)) (fun _ _ hM' hT' => c_needFloor hN hhi hb hM' hT') ?_
  refine j_iload_n_3 dX4_addLift_10 ?_
  refine j_iconst (v := nI 1) dX4_addLift_11 nc_iconst_1 ?_
  refine j_iload_n_2 dX4_addLift_12 ?_
  refine j_iload_n_1 dX4_addLift_13 ?_
  refine j_isubN (by omega) dX4_addLift_14 ?_
  refine C_X4_41 rfl (by decide) dX4_addLift_15 (Nat.le_of_ble_eq_true rfl) (Nat.le_of_eq (Nat.zero_add _)) (Nat.le_of_eq (Nat.zero_add _)) (fun _ _ hM' hT' => c_needArgument (nI_nlt he (by omega)) (nI_le hev (by omega)) hM' hT') ?_
  refine j_iload_4 dX4_addLift_18 ?_
  refine j_iconst (v := nI 1) dX4_addLift_20 nc_iconst_1 ?_
  refine j_bipush (v := nI 9) dX4_addLift_21 nc_bipush_9 ?_
  refine C_X4_41 rfl (by decide) dX4_addLift_23 (Nat.le_of_ble_eq_true rfl) (Nat.le_of_eq (Nat.zero_add _)) (Nat.le_of_eq (Nat.zero_add _)) (fun _ _ hM' hT' => c_needArgument hA hB hM' hT') ?_
  refine j_aload_n_0 dX4_addLift_26 ?_
  refine G_X4_10 rfl dX4_addLift_27 sk_0 sr_0_0 ?_
  refine G_X4_76 rfl dX4_addLift_30 sk_1 ?_
  refine j_top (y := nI K) hK ?_
  refine j_iconst (v := nI 4) dX4_addLift_33 nc_iconst_4 ?_
  refine j_ic_ltN (by omega) (by omega) (tgt := 47) dX4_addLift_34 (by decide) (fun h34 => ?_) (fun h34 => ?_)
  · refine j_aload_n_0 dX4_addLift_47 ?_
    refine G_X4_10 rfl dX4_addLift_48 sk_0 sr_0_0 ?_
    refine j_iload_n_1 dX4_addLift_51 ?_
    refine j_iload_n_2 dX4_addLift_52 ?_
    refine j_iload_n_3 dX4_addLift_53 ?_
    refine j_iload_4 dX4_addLift_54 ?_
    refine C_X4_86 rfl (by decide) dX4_addLift_56 sk_1 (Nat.le_of_ble_eq_true rfl) (Nat.le_of_eq (Nat.zero_add _)) (Nat.le_of_eq (Nat.zero_add _)) (fun _ _ hM' hT' => c_putLift hN hb hK hK3 hl (by omega) he (by omega) hM' hT') ?_
    exact j_iret hM dX4_addLift_59 rfl hT
  · exact absurd h34 (by omega)

set_option maxHeartbeats 4000000 in
set_option maxRecDepth 100000 in
theorem e_addLift_15 {sx : Nat → jv_S} {g : jv_G} {X : jv_X} {T : jv_T} {n : Nat} {V : Nat → Nat → Int32} {L : Nat → Nat → Int64} {k z : Nat} {N K R : Nat} (hC : Ct V N K R) {lo hi : Nat} (hlo : lo < N) (hhi : hi < N) {ev w : Int32} (hx : ev < nI 1 ∨ nI hi - nI lo < ev) (hk : 1 ≤ k) (hz : 6 ≤ z) (hM : jv_M g X T) (hX : ∀ n', n ≤ n' → T (.inr "java/lang/IllegalArgumentException") n' (SH sx) V L) : jv_J g X I_X4_addLift 0 [some (jv_r g 0), some (.int (nI lo)), some (.int (nI hi)), some (.int ev), some (.int w)] [] n (SH sx) V L k z := by
  obtain ⟨hN, hK, hR, hN2, hb, hK4, hR8⟩ := id hC
  refine j_aload_n_0 dX4_addLift_0 ?_
  refine j_iload_n_1 dX4_addLift_1 ?_
  refine C_X4_49 rfl (by decide) dX4_addLift_2 sk_0 (Nat.le_of_ble_eq_true rfl) (Nat.le_of_eq (Nat.zero_add _)) (Nat.le_of_eq (Nat.zero_add _)) (fun _ _ hM' hT' => c_needFloor hN hlo hb hM' hT') ?_
  refine j_aload_n_0 dX4_addLift_5 ?_
  refine j_iload_n_2 dX4_addLift_6 ?_
  refine C_X4_49 rfl (by decide) dX4_addLift_7 sk_0 (Nat.le_of_ble_eq_true rfl) (Nat.le_of_eq (Nat.zero_add _)) (Nat.le_of_eq (Nat.zero_add _)) (fun _ _ hM' hT' => c_needFloor hN hhi hb hM' hT') ?_
  refine j_iload_n_3 dX4_addLift_10 ?_
  refine j_iconst (v := nI 1) dX4_addLift_11 nc_iconst_1 ?_
  refine j_iload_n_2 dX4_addLift_12 ?_
  refine j_iload_n_1 dX4_addLift_13 ?_
  refine j_isub dX4_addLift_14 ?_
  exact X_X4_41 (n1 := 0) (sh1 := fun _ => (0, 0, fun _ => none)) (V1 := fun _ _ => 0) (L1 := fun _ _ => 0) rfl (by decide) dX4_addLift_15 (Nat.le_of_ble_eq_true rfl) (show 1 + 0 ≤ k from hk) (show 6 + 0 ≤ z from hz) (fun _ _ hM' hT' => b_needArgument hx (Nat.le_refl 1) (Nat.le_refl 6) hM' hT') (fun n' hn' => j_out hM rfl (hX n' hn'))

set_option maxHeartbeats 4000000 in
set_option maxRecDepth 100000 in
theorem e_addLift_23 {sx : Nat → jv_S} {g : jv_G} {X : jv_X} {T : jv_T} {n : Nat} {V : Nat → Nat → Int32} {L : Nat → Nat → Int64} {k z : Nat} {N K R : Nat} (hC : Ct V N K R) {lo hi ev : Nat} (hlo : lo < N) (hhi : hi < N) {w : Int32} (hl : lo < hi) (he : 1 ≤ ev) (hev : ev ≤ hi - lo) (hx : w < nI 1 ∨ nI 9 < w) (hk : 1 ≤ k) (hz : 6 ≤ z) (hM : jv_M g X T) (hX : ∀ n', n ≤ n' → T (.inr "java/lang/IllegalArgumentException") n' (SH sx) V L) : jv_J g X I_X4_addLift 0 [some (jv_r g 0), some (.int (nI lo)), some (.int (nI hi)), some (.int (nI ev)), some (.int w)] [] n (SH sx) V L k z := by
  obtain ⟨hN, hK, hR, hN2, hb, hK4, hR8⟩ := id hC
  refine j_aload_n_0 dX4_addLift_0 ?_
  refine j_iload_n_1 dX4_addLift_1 ?_
  refine C_X4_49 rfl (by decide) dX4_addLift_2 sk_0 (Nat.le_of_ble_eq_true rfl) (Nat.le_of_eq (Nat.zero_add _)) (Nat.le_of_eq (Nat.zero_add _)) (fun _ _ hM' hT' => c_needFloor hN hlo hb hM' hT') ?_
  refine j_aload_n_0 dX4_addLift_5 ?_
  refine j_iload_n_2 dX4_addLift_6 ?_
  refine C_X4_49 rfl (by decide) dX4_addLift_7 sk_0 (Nat.le_of_ble_eq_true rfl) (Nat.le_of_eq (Nat.zero_add _)) (Nat.le_of_eq (Nat.zero_add _)) (fun _ _ hM' hT' => c_needFloor hN hhi hb hM' hT') ?_
  refine j_iload_n_3 dX4_addLift_10 ?_
  refine j_iconst (v := nI 1) dX4_addLift_11 nc_iconst_1 ?_
  refine j_iload_n_2 dX4_addLift_12 ?_
  refine j_iload_n_1 dX4_addLift_13 ?_
  refine j_isubN (by omega) dX4_addLift_14 ?_
  refine C_X4_41 rfl (by decide) dX4_addLift_15 (Nat.le_of_ble_eq_true rfl) (Nat.le_of_eq (Nat.zero_add _)) (Nat.le_of_eq (Nat.zero_add _)) (fun _ _ hM' hT' => c_needArgument (nI_nlt he (by omega)) (nI_le hev (by omega)) hM' hT') ?_
  refine j_iload_4 dX4_addLift_18 ?_
  refine j_iconst (v := nI 1) dX4_addLift_20 nc_iconst_1 ?_
  refine j_bipush (v := nI 9) dX4_addLift_21 nc_bipush_9 ?_
  exact X_X4_41 (n1 := 0) (sh1 := fun _ => (0, 0, fun _ => none)) (V1 := fun _ _ => 0) (L1 := fun _ _ => 0) rfl (by decide) dX4_addLift_23 (Nat.le_of_ble_eq_true rfl) (show 1 + 0 ≤ k from hk) (show 6 + 0 ≤ z from hz) (fun _ _ hM' hT' => b_needArgument hx (Nat.le_refl 1) (Nat.le_refl 6) hM' hT') (fun n' hn' => j_out hM rfl (hX n' hn'))

set_option maxHeartbeats 4000000 in
set_option maxRecDepth 100000 in
theorem e_addLift_34 {sx : Nat → jv_S} {g : jv_G} {X : jv_X} {T : jv_T} {n : Nat} {V : Nat → Nat → Int32} {L : Nat → Nat → Int64} {k z : Nat} {N K R : Nat} (hC : Ct V N K R) {lo hi ev : Nat} (hlo : lo < N) (hhi : hi < N) {w : Int32} (hl : lo < hi) (he : 1 ≤ ev) (hev : ev ≤ hi - lo) (hA : ¬ w < nI 1) (hB : w ≤ nI 9) (hK3 : 4 ≤ K) (hk : 1 ≤ k) (hz : 6 ≤ z) (hM : jv_M g X T) (hX : ∀ n', n ≤ n' → T (.inr "java/lang/IllegalStateException") n' (SH sx) V L) : jv_J g X I_X4_addLift 0 [some (jv_r g 0), some (.int (nI lo)), some (.int (nI hi)), some (.int (nI ev)), some (.int w)] [] n (SH sx) V L k z := by
  obtain ⟨hN, hK, hR, hN2, hb, hK4, hR8⟩ := id hC
  refine j_aload_n_0 dX4_addLift_0 ?_
  refine j_iload_n_1 dX4_addLift_1 ?_
  refine C_X4_49 rfl (by decide) dX4_addLift_2 sk_0 (Nat.le_of_ble_eq_true rfl) (Nat.le_of_eq (Nat.zero_add _)) (Nat.le_of_eq (Nat.zero_add _)) (fun _ _ hM' hT' => c_needFloor hN hlo hb hM' hT') ?_
  refine j_aload_n_0 dX4_addLift_5 ?_
  refine j_iload_n_2 dX4_addLift_6 ?_
  refine C_X4_49 rfl (by decide) dX4_addLift_7 sk_0 (Nat.le_of_ble_eq_true rfl) (Nat.le_of_eq (Nat.zero_add _)) (Nat.le_of_eq (Nat.zero_add _)) (fun _ _ hM' hT' => c_needFloor hN hhi hb hM' hT') ?_
  refine j_iload_n_3 dX4_addLift_10 ?_
  refine j_iconst (v := nI 1) dX4_addLift_11 nc_iconst_1 ?_
  refine j_iload_n_2 dX4_addLift_12 ?_
  refine j_iload_n_1 dX4_addLift_13 ?_
  refine j_isubN (by omega) dX4_addLift_14 ?_
  refine C_X4_41 rfl (by decide) dX4_addLift_15 (Nat.le_of_ble_eq_true rfl) (Nat.le_of_eq (Nat.zero_add _)) (Nat.le_of_eq (Nat.zero_add _)) (fun _ _ hM' hT' => c_needArgument (nI_nlt he (by omega)) (nI_le hev (by omega)) hM' hT') ?_
  refine j_iload_4 dX4_addLift_18 ?_
  refine j_iconst (v := nI 1) dX4_addLift_20 nc_iconst_1 ?_
  refine j_bipush (v := nI 9) dX4_addLift_21 nc_bipush_9 ?_
  refine C_X4_41 rfl (by decide) dX4_addLift_23 (Nat.le_of_ble_eq_true rfl) (Nat.le_of_eq (Nat.zero_add _)) (Nat.le_of_eq (Nat.zero_add _)) (fun _ _ hM' hT' => c_needArgument hA hB hM' hT') ?_
  refine j_aload_n_0 dX4_addLift_26 ?_
  refine G_X4_10 rfl dX4_addLift_27 sk_0 sr_0_0 ?_
  refine G_X4_76 rfl dX4_addLift_30 sk_1 ?_
  refine j_top (y := nI K) hK ?_
  refine j_iconst (v := nI 4) dX4_addLift_33 nc_iconst_4 ?_
  refine j_ic_ltN (by omega) (by omega) (tgt := 47) dX4_addLift_34 (by decide) (fun h34 => ?_) (fun h34 => ?_)
  · exact absurd h34 (by omega)
  · exact T_X4_addLift hM (Nat.le_of_ble_eq_true rfl) (by omega) (by omega) hX

set_option maxHeartbeats 4000000 in
set_option maxRecDepth 100000 in
theorem g_turnLift {sx : Nat → jv_S} {g : jv_G} {X : jv_X} {T : jv_T} {n : Nat} {V : Nat → Nat → Int32} {L : Nat → Nat → Int64} {k z : Nat} {N K R : Nat} (hC : Ct V N K R) {l : Nat} (hl : (l < K))  (hM : jv_M g X T) (hT : T (.inl (some (.int (nb (V (20 + 2 * l) 0))))) n (SH sx) (layV (jv_U V (20 + 2 * l) 0 (nb (V (20 + 2 * l) 0))) N K) L) : jv_J g X I_X4_turnLift 0 [some (jv_r g 0), some (.int (nI l))] [] n (SH sx) V L k z := by
  obtain ⟨hN, hK, hR, hN2, hb, hK4, hR8⟩ := id hC
  refine j_aload_n_0 dX4_turnLift_0 ?_
  refine j_iload_n_1 dX4_turnLift_1 ?_
  refine C_X4_90 rfl (by decide) dX4_turnLift_2 sk_0 (Nat.le_of_ble_eq_true rfl) (Nat.le_of_eq (Nat.zero_add _)) (Nat.le_of_eq (Nat.zero_add _)) (fun _ _ hM' hT' => c_needLift hK hl (by omega) hM' hT') ?_
  refine j_aload_n_0 dX4_turnLift_5 ?_
  refine G_X4_10 rfl dX4_turnLift_6 sk_0 sr_0_0 ?_
  refine j_iload_n_1 dX4_turnLift_9 ?_
  refine j_aload_n_0 dX4_turnLift_10 ?_
  refine G_X4_10 rfl dX4_turnLift_11 sk_0 sr_0_0 ?_
  refine G_X4_93 rfl dX4_turnLift_14 sk_1 sr_1_6 ?_
  refine j_iload_n_1 dX4_turnLift_17 ?_
  refine jv_aald (t := 4) (fun _ => rfl) rfl (by decide) (by decide) dX4_turnLift_18 sk_6 sn_6 (by omega) (by decide) (sr_lif (by omega)) ?_
  refine G_X4_97 rfl dX4_turnLift_19 (sk_lif (isLif.of (by omega))) ?_
  refine j_if_ne (tgt := 29) dX4_turnLift_22 (by decide) (fun h22 => ?_) (fun h22 => ?_)
  · refine j_iconst (v := nI 0) dX4_turnLift_29 nc_iconst_0 ?_
    refine j_top (y := nb (V (20 + 2 * l) 0)) (by unfold nb; rw [if_neg h22]) ?_
    refine C_X4_103 rfl (by decide) dX4_turnLift_30 sk_1 (Nat.le_of_ble_eq_true rfl) (Nat.le_of_eq (Nat.zero_add _)) (Nat.le_of_eq (Nat.zero_add _)) (fun _ _ hM' hT' => c_letLift hN hb hK hK4 hl (nb01 _) hM' hT') ?_
    refine j_aload_n_0 dX4_turnLift_33 ?_
    refine G_X4_10 rfl dX4_turnLift_34 sk_0 sr_0_0 ?_
    refine G_X4_93 rfl dX4_turnLift_37 sk_1 sr_1_6 ?_
    refine j_iload_n_1 dX4_turnLift_40 ?_
    refine jv_aald (t := 4) (fun _ => rfl) rfl (by decide) (by decide) dX4_turnLift_41 sk_6 sn_6 (by omega) (by decide) (sr_lif (by omega)) ?_
    refine G_X4_97 rfl dX4_turnLift_42 (sk_lif (isLif.of (by omega))) ?_
    refine j_top (y := nb (V (20 + 2 * l) 0)) (by rw [layV_out (by omega), jv_Ueq]) ?_
    exact j_zret hM dX4_turnLift_45 rfl (jv_b01 (nb01 _)) hT
  · refine j_iconst (v := nI 1) dX4_turnLift_25 nc_iconst_1 ?_
    refine j_top (y := nb (V (20 + 2 * l) 0)) (by unfold nb; rw [if_pos h22]) ?_
    refine j_goto (tgt := 30) dX4_turnLift_26 (by decide) ?_
    refine C_X4_103 rfl (by decide) dX4_turnLift_30 sk_1 (Nat.le_of_ble_eq_true rfl) (Nat.le_of_eq (Nat.zero_add _)) (Nat.le_of_eq (Nat.zero_add _)) (fun _ _ hM' hT' => c_letLift hN hb hK hK4 hl (nb01 _) hM' hT') ?_
    refine j_aload_n_0 dX4_turnLift_33 ?_
    refine G_X4_10 rfl dX4_turnLift_34 sk_0 sr_0_0 ?_
    refine G_X4_93 rfl dX4_turnLift_37 sk_1 sr_1_6 ?_
    refine j_iload_n_1 dX4_turnLift_40 ?_
    refine jv_aald (t := 4) (fun _ => rfl) rfl (by decide) (by decide) dX4_turnLift_41 sk_6 sn_6 (by omega) (by decide) (sr_lif (by omega)) ?_
    refine G_X4_97 rfl dX4_turnLift_42 (sk_lif (isLif.of (by omega))) ?_
    refine j_top (y := nb (V (20 + 2 * l) 0)) (by rw [layV_out (by omega), jv_Ueq]) ?_
    exact j_zret hM dX4_turnLift_45 rfl (jv_b01 (nb01 _)) hT

set_option maxHeartbeats 4000000 in
set_option maxRecDepth 100000 in
theorem e_turnLift_2 {sx : Nat → jv_S} {g : jv_G} {X : jv_X} {T : jv_T} {n : Nat} {V : Nat → Nat → Int32} {L : Nat → Nat → Int64} {k z : Nat} {N K R : Nat} (hC : Ct V N K R) {l : Int32} (hx : l < 0 ∨ nI K ≤ l) (hk : 1 ≤ k) (hz : 6 ≤ z) (hM : jv_M g X T) (hX : ∀ n', n ≤ n' → T (.inr "java/lang/IndexOutOfBoundsException") n' (SH sx) V L) : jv_J g X I_X4_turnLift 0 [some (jv_r g 0), some (.int l)] [] n (SH sx) V L k z := by
  obtain ⟨hN, hK, hR, hN2, hb, hK4, hR8⟩ := id hC
  refine j_aload_n_0 dX4_turnLift_0 ?_
  refine j_iload_n_1 dX4_turnLift_1 ?_
  exact X_X4_90 (n1 := 0) (sh1 := fun _ => (0, 0, fun _ => none)) (V1 := fun _ _ => 0) (L1 := fun _ _ => 0) rfl (by decide) dX4_turnLift_2 sk_0 (Nat.le_of_ble_eq_true rfl) (show 1 + 0 ≤ k from hk) (show 6 + 0 ≤ z from hz) (fun _ _ hM' hT' => b_needLift hK (by omega) hx (Nat.le_refl 1) (Nat.le_refl 6) hM' hT') (fun n' hn' => j_out hM rfl (hX n' hn'))

set_option maxHeartbeats 4000000 in
set_option maxRecDepth 100000 in
theorem g_startRumour {sx : Nat → jv_S} {g : jv_G} {X : jv_X} {T : jv_T} {n : Nat} {V : Nat → Nat → Int32} {L : Nat → Nat → Int64} {k z : Nat} {N K R : Nat} (hC : Ct V N K R) {f : Nat} (hf : (f < N)) {y : Int32} (hAy : ¬ y < nI 1) (hBy : y ≤ nI 20) (hR7 : R < 8) (hM : jv_M g X T) (hT : T (.inl (some (.int (nI R)))) n (SH sx) (jv_U (staR V (43 + 10 * R) f y (V 0 5)) 0 4 (nI (R + 1))) L) : jv_J g X I_X4_startRumour 0 [some (jv_r g 0), some (.int (nI f)), some (.int y), none] [] n (SH sx) V L k z := by
  obtain ⟨hN, hK, hR, hN2, hb, hK4, hR8⟩ := id hC
  refine j_aload_n_0 dX4_startRumour_0 ?_
  refine j_iload_n_1 dX4_startRumour_1 ?_
  refine C_X4_49 rfl (by decide) dX4_startRumour_2 sk_0 (Nat.le_of_ble_eq_true rfl) (Nat.le_of_eq (Nat.zero_add _)) (Nat.le_of_eq (Nat.zero_add _)) (fun _ _ hM' hT' => c_needFloor hN hf hb hM' hT') ?_
  refine j_iload_n_2 dX4_startRumour_5 ?_
  refine j_iconst (v := nI 1) dX4_startRumour_6 nc_iconst_1 ?_
  refine j_bipush (v := nI 20) dX4_startRumour_7 nc_bipush_20 ?_
  refine C_X4_41 rfl (by decide) dX4_startRumour_9 (Nat.le_of_ble_eq_true rfl) (Nat.le_of_eq (Nat.zero_add _)) (Nat.le_of_eq (Nat.zero_add _)) (fun _ _ hM' hT' => c_needArgument hAy hBy hM' hT') ?_
  refine j_aload_n_0 dX4_startRumour_12 ?_
  refine G_X4_34 rfl dX4_startRumour_13 sk_0 ?_
  refine j_top (y := nI R) hR ?_
  refine j_bipush (v := nI 8) dX4_startRumour_16 nc_bipush_8 ?_
  refine j_ic_ltN (by omega) (by omega) (tgt := 31) dX4_startRumour_18 (by decide) (fun h18 => ?_) (fun h18 => ?_)
  · refine j_aload_n_0 dX4_startRumour_31 ?_
    refine G_X4_34 rfl dX4_startRumour_32 sk_0 ?_
    refine j_top (y := nI R) hR ?_
    refine j_istore_n_3 rfl (by decide) dX4_startRumour_35 ?_
    refine j_aload_n_0 dX4_startRumour_36 ?_
    refine G_X4_25 rfl dX4_startRumour_37 sk_0 sr_0_2 ?_
    refine j_iload_n_3 dX4_startRumour_40 ?_
    refine jv_aald (t := 3) (fun _ => rfl) rfl (by decide) (by decide) dX4_startRumour_41 sk_32 sn_32 (by omega) (by decide) (sr_sta (by omega)) ?_
    refine j_aload_n_0 dX4_startRumour_42 ?_
    refine G_X4_10 rfl dX4_startRumour_43 sk_0 sr_0_0 ?_
    refine j_iload_n_1 dX4_startRumour_46 ?_
    refine j_iload_n_2 dX4_startRumour_47 ?_
    refine j_aload_n_0 dX4_startRumour_48 ?_
    refine G_X4_38 rfl dX4_startRumour_49 sk_0 ?_
    refine C_X4_108 rfl (by decide) dX4_startRumour_52 (sk_rum (isRum.of (by omega))) (Nat.le_of_ble_eq_true rfl) (Nat.le_of_eq (Nat.zero_add _)) (Nat.le_of_eq (Nat.zero_add _)) (fun _ _ hM' hT' => c_start (isRum.of (by omega)) (by omega) hM' hT') ?_
    refine j_aload_n_0 dX4_startRumour_55 ?_
    refine j_iload_n_3 dX4_startRumour_56 ?_
    refine j_iconst (v := nI 1) dX4_startRumour_57 nc_iconst_1 ?_
    refine j_iaddN dX4_startRumour_58 ?_
    refine P_X4_34 rfl dX4_startRumour_59 sk_0 ?_
    refine j_iload_n_3 dX4_startRumour_62 ?_
    exact j_iret hM dX4_startRumour_63 rfl hT
  · exact absurd h18 (by omega)

set_option maxHeartbeats 4000000 in
set_option maxRecDepth 100000 in
theorem e_startRumour_2 {sx : Nat → jv_S} {g : jv_G} {X : jv_X} {T : jv_T} {n : Nat} {V : Nat → Nat → Int32} {L : Nat → Nat → Int64} {k z : Nat} {N K R : Nat} (hC : Ct V N K R) {f : Int32} {y : Int32} (hx : f < 0 ∨ nI N ≤ f) (hk : 1 ≤ k) (hz : 6 ≤ z) (hM : jv_M g X T) (hX : ∀ n', n ≤ n' → T (.inr "java/lang/IndexOutOfBoundsException") n' (SH sx) V L) : jv_J g X I_X4_startRumour 0 [some (jv_r g 0), some (.int f), some (.int y), none] [] n (SH sx) V L k z := by
  obtain ⟨hN, hK, hR, hN2, hb, hK4, hR8⟩ := id hC
  refine j_aload_n_0 dX4_startRumour_0 ?_
  refine j_iload_n_1 dX4_startRumour_1 ?_
  exact X_X4_49 (n1 := 0) (sh1 := fun _ => (0, 0, fun _ => none)) (V1 := fun _ _ => 0) (L1 := fun _ _ => 0) rfl (by decide) dX4_startRumour_2 sk_0 (Nat.le_of_ble_eq_true rfl) (show 1 + 0 ≤ k from hk) (show 6 + 0 ≤ z from hz) (fun _ _ hM' hT' => b_needFloor hN hb hx (Nat.le_refl 1) (Nat.le_refl 6) hM' hT') (fun n' hn' => j_out hM rfl (hX n' hn'))

set_option maxHeartbeats 4000000 in
set_option maxRecDepth 100000 in
theorem e_startRumour_9 {sx : Nat → jv_S} {g : jv_G} {X : jv_X} {T : jv_T} {n : Nat} {V : Nat → Nat → Int32} {L : Nat → Nat → Int64} {k z : Nat} {N K R : Nat} (hC : Ct V N K R) {f : Nat} (hf : (f < N)) {y : Int32} (hx : y < nI 1 ∨ nI 20 < y) (hk : 1 ≤ k) (hz : 6 ≤ z) (hM : jv_M g X T) (hX : ∀ n', n ≤ n' → T (.inr "java/lang/IllegalArgumentException") n' (SH sx) V L) : jv_J g X I_X4_startRumour 0 [some (jv_r g 0), some (.int (nI f)), some (.int y), none] [] n (SH sx) V L k z := by
  obtain ⟨hN, hK, hR, hN2, hb, hK4, hR8⟩ := id hC
  refine j_aload_n_0 dX4_startRumour_0 ?_
  refine j_iload_n_1 dX4_startRumour_1 ?_
  refine C_X4_49 rfl (by decide) dX4_startRumour_2 sk_0 (Nat.le_of_ble_eq_true rfl) (Nat.le_of_eq (Nat.zero_add _)) (Nat.le_of_eq (Nat.zero_add _)) (fun _ _ hM' hT' => c_needFloor hN hf hb hM' hT') ?_
  refine j_iload_n_2 dX4_startRumour_5 ?_
  refine j_iconst (v := nI 1) dX4_startRumour_6 nc_iconst_1 ?_
  refine j_bipush (v := nI 20) dX4_startRumour_7 nc_bipush_20 ?_
  exact X_X4_41 (n1 := 0) (sh1 := fun _ => (0, 0, fun _ => none)) (V1 := fun _ _ => 0) (L1 := fun _ _ => 0) rfl (by decide) dX4_startRumour_9 (Nat.le_of_ble_eq_true rfl) (show 1 + 0 ≤ k from hk) (show 6 + 0 ≤ z from hz) (fun _ _ hM' hT' => b_needArgument hx (Nat.le_refl 1) (Nat.le_refl 6) hM' hT') (fun n' hn' => j_out hM rfl (hX n' hn'))

set_option maxHeartbeats 4000000 in
set_option maxRecDepth 100000 in
theorem e_startRumour_18 {sx : Nat → jv_S} {g : jv_G} {X : jv_X} {T : jv_T} {n : Nat} {V : Nat → Nat → Int32} {L : Nat → Nat → Int64} {k z : Nat} {N K R : Nat} (hC : Ct V N K R) {f : Nat} (hf : f < N) {y : Int32} (hA : ¬ y < nI 1) (hB : y ≤ nI 20) (hR7 : 8 ≤ R) (hk : 1 ≤ k) (hz : 6 ≤ z) (hM : jv_M g X T) (hX : ∀ n', n ≤ n' → T (.inr "java/lang/IllegalStateException") n' (SH sx) V L) : jv_J g X I_X4_startRumour 0 [some (jv_r g 0), some (.int (nI f)), some (.int y), none] [] n (SH sx) V L k z := by
  obtain ⟨hN, hK, hR, hN2, hb, hK4, hR8⟩ := id hC
  refine j_aload_n_0 dX4_startRumour_0 ?_
  refine j_iload_n_1 dX4_startRumour_1 ?_
  refine C_X4_49 rfl (by decide) dX4_startRumour_2 sk_0 (Nat.le_of_ble_eq_true rfl) (Nat.le_of_eq (Nat.zero_add _)) (Nat.le_of_eq (Nat.zero_add _)) (fun _ _ hM' hT' => c_needFloor hN hf hb hM' hT') ?_
  refine j_iload_n_2 dX4_startRumour_5 ?_
  refine j_iconst (v := nI 1) dX4_startRumour_6 nc_iconst_1 ?_
  refine j_bipush (v := nI 20) dX4_startRumour_7 nc_bipush_20 ?_
  refine C_X4_41 rfl (by decide) dX4_startRumour_9 (Nat.le_of_ble_eq_true rfl) (Nat.le_of_eq (Nat.zero_add _)) (Nat.le_of_eq (Nat.zero_add _)) (fun _ _ hM' hT' => c_needArgument hA hB hM' hT') ?_
  refine j_aload_n_0 dX4_startRumour_12 ?_
  refine G_X4_34 rfl dX4_startRumour_13 sk_0 ?_
  refine j_top (y := nI R) hR ?_
  refine j_bipush (v := nI 8) dX4_startRumour_16 nc_bipush_8 ?_
  refine j_ic_ltN (by omega) (by omega) (tgt := 31) dX4_startRumour_18 (by decide) (fun h18 => ?_) (fun h18 => ?_)
  · exact absurd h18 (by omega)
  · exact T_X4_startRumour hM (Nat.le_of_ble_eq_true rfl) (by omega) (by omega) hX

def hdB (V : Nat → Nat → Int32) (r f : Nat) : Int32 := if V (r + 1) f = nI 1 then V 2 f else nI 0

set_option maxHeartbeats 4000000 in
set_option maxRecDepth 100000 in
theorem g_startDenial {sx : Nat → jv_S} {g : jv_G} {X : jv_X} {T : jv_T} {n : Nat} {V : Nat → Nat → Int32} {L : Nat → Nat → Int64} {k z : Nat} {N K R : Nat} (hC : Ct V N K R) {j f : Nat} (hj : j < R) (hf : f < N) (hS : ¬ V (43 + 10 * j + 1) f = nI 2) (hM : jv_M g X T) (hT : T (.inl (some (.int (hdB V (43 + 10 * j) f)))) n (SH sx) (brD V (43 + 10 * j) f (V 0 5)) L) : jv_J g X I_X4_startDenial 0 [some (jv_r g 0), some (.int (nI j)), some (.int (nI f)), none, none] [] n (SH sx) V L k z := by
  obtain ⟨hN, hK, hR, hN2, hb, hK4, hR8⟩ := id hC
  refine j_aload_n_0 dX4_startDenial_0 ?_
  refine j_iload_n_1 dX4_startDenial_1 ?_
  refine C_X4_112 rfl (by decide) dX4_startDenial_2 sk_0 (Nat.le_of_ble_eq_true rfl) (Nat.le_of_eq (Nat.zero_add _)) (Nat.le_of_eq (Nat.zero_add _)) (fun _ _ hM' hT' => c_needRumour hR hj (by omega) hM' hT') ?_
  refine j_aload_n_0 dX4_startDenial_5 ?_
  refine j_iload_n_2 dX4_startDenial_6 ?_
  refine C_X4_49 rfl (by decide) dX4_startDenial_7 sk_0 (Nat.le_of_ble_eq_true rfl) (Nat.le_of_eq (Nat.zero_add _)) (Nat.le_of_eq (Nat.zero_add _)) (fun _ _ hM' hT' => c_needFloor hN hf hb hM' hT') ?_
  refine j_aload_n_0 dX4_startDenial_10 ?_
  refine G_X4_25 rfl dX4_startDenial_11 sk_0 sr_0_2 ?_
  refine j_iload_n_1 dX4_startDenial_14 ?_
  refine jv_aald (t := 3) (fun _ => rfl) rfl (by decide) (by decide) dX4_startDenial_15 sk_32 sn_32 (by omega) (by decide) (sr_sta (by omega)) ?_
  refine j_astore_n_3 rfl (by decide) dX4_startDenial_16 ?_
  refine j_aload_n_3 dX4_startDenial_17 ?_
  refine G_X4_115 rfl dX4_startDenial_18 (sk_rum (isRum.of (by omega))) (sr_rum_2 (isRum.of (by omega))) ?_
  refine j_iload_n_2 dX4_startDenial_21 ?_
  refine j_iald dX4_startDenial_22 (sk_rua_1 (isRum.of (by omega))) (sn_rua_1 (isRum.of (by omega))) (by omega) (by decide) ?_
  refine j_iconst (v := nI 2) dX4_startDenial_23 nc_iconst_2 ?_
  refine j_ic_ne (tgt := 37) dX4_startDenial_24 (by decide) (fun h24 => ?_) (fun h24 => ?_)
  · refine j_aload_n_3 dX4_startDenial_37 ?_
    refine G_X4_115 rfl dX4_startDenial_38 (sk_rum (isRum.of (by omega))) (sr_rum_2 (isRum.of (by omega))) ?_
    refine j_iload_n_2 dX4_startDenial_41 ?_
    refine j_iald dX4_startDenial_42 (sk_rua_1 (isRum.of (by omega))) (sn_rua_1 (isRum.of (by omega))) (by omega) (by decide) ?_
    refine j_iconst (v := nI 1) dX4_startDenial_43 nc_iconst_1 ?_
    refine j_ic_ne (tgt := 59) dX4_startDenial_44 (by decide) (fun h44 => ?_) (fun h44 => ?_)
    · refine j_iconst (v := nI 0) dX4_startDenial_59 nc_iconst_0 ?_
      refine j_top (y := hdB V (43 + 10 * j) f) (by unfold hdB; rw [if_neg h44]) ?_
      refine j_istore_4 rfl (by decide) dX4_startDenial_60 ?_
      refine j_aload_n_3 dX4_startDenial_62 ?_
      refine j_aload_n_0 dX4_startDenial_63 ?_
      refine G_X4_10 rfl dX4_startDenial_64 sk_0 sr_0_0 ?_
      refine j_iload_n_2 dX4_startDenial_67 ?_
      refine j_aload_n_0 dX4_startDenial_68 ?_
      refine G_X4_38 rfl dX4_startDenial_69 sk_0 ?_
      refine C_X4_120 rfl (by decide) dX4_startDenial_72 (sk_rum (isRum.of (by omega))) (Nat.le_of_ble_eq_true rfl) (Nat.le_of_eq (Nat.zero_add _)) (Nat.le_of_eq (Nat.zero_add _)) (fun _ _ hM' hT' => c_bringDenial (isRum.of (by omega)) (by omega) hM' hT') ?_
      refine j_iload_4 dX4_startDenial_75 ?_
      exact j_iret hM dX4_startDenial_77 rfl hT
    · refine j_aload_n_0 dX4_startDenial_47 ?_
      refine G_X4_10 rfl dX4_startDenial_48 sk_0 sr_0_0 ?_
      refine G_X4_56 rfl dX4_startDenial_51 sk_1 sr_1_2 ?_
      refine j_iload_n_2 dX4_startDenial_54 ?_
      refine j_iald dX4_startDenial_55 sk_2 sn_2 (by omega) (by decide) ?_
      refine j_top (y := hdB V (43 + 10 * j) f) (by unfold hdB; rw [if_pos h44]) ?_
      refine j_goto (tgt := 60) dX4_startDenial_56 (by decide) ?_
      refine j_istore_4 rfl (by decide) dX4_startDenial_60 ?_
      refine j_aload_n_3 dX4_startDenial_62 ?_
      refine j_aload_n_0 dX4_startDenial_63 ?_
      refine G_X4_10 rfl dX4_startDenial_64 sk_0 sr_0_0 ?_
      refine j_iload_n_2 dX4_startDenial_67 ?_
      refine j_aload_n_0 dX4_startDenial_68 ?_
      refine G_X4_38 rfl dX4_startDenial_69 sk_0 ?_
      refine C_X4_120 rfl (by decide) dX4_startDenial_72 (sk_rum (isRum.of (by omega))) (Nat.le_of_ble_eq_true rfl) (Nat.le_of_eq (Nat.zero_add _)) (Nat.le_of_eq (Nat.zero_add _)) (fun _ _ hM' hT' => c_bringDenial (isRum.of (by omega)) (by omega) hM' hT') ?_
      refine j_iload_4 dX4_startDenial_75 ?_
      exact j_iret hM dX4_startDenial_77 rfl hT
  · exact absurd h24 hS

set_option maxHeartbeats 4000000 in
set_option maxRecDepth 100000 in
theorem e_startDenial_24 {sx : Nat → jv_S} {g : jv_G} {X : jv_X} {T : jv_T} {n : Nat} {V : Nat → Nat → Int32} {L : Nat → Nat → Int64} {k z : Nat} {N K R : Nat} (hC : Ct V N K R) {j f : Nat} (hj : j < R) (hf : f < N) (hS : V (43 + 10 * j + 1) f = nI 2) (hk : 1 ≤ k) (hz : 6 ≤ z) (hM : jv_M g X T) (hX : ∀ n', n ≤ n' → T (.inr "java/lang/IllegalStateException") n' (SH sx) V L) : jv_J g X I_X4_startDenial 0 [some (jv_r g 0), some (.int (nI j)), some (.int (nI f)), none, none] [] n (SH sx) V L k z := by
  obtain ⟨hN, hK, hR, hN2, hb, hK4, hR8⟩ := id hC
  refine j_aload_n_0 dX4_startDenial_0 ?_
  refine j_iload_n_1 dX4_startDenial_1 ?_
  refine C_X4_112 rfl (by decide) dX4_startDenial_2 sk_0 (Nat.le_of_ble_eq_true rfl) (Nat.le_of_eq (Nat.zero_add _)) (Nat.le_of_eq (Nat.zero_add _)) (fun _ _ hM' hT' => c_needRumour hR hj (by omega) hM' hT') ?_
  refine j_aload_n_0 dX4_startDenial_5 ?_
  refine j_iload_n_2 dX4_startDenial_6 ?_
  refine C_X4_49 rfl (by decide) dX4_startDenial_7 sk_0 (Nat.le_of_ble_eq_true rfl) (Nat.le_of_eq (Nat.zero_add _)) (Nat.le_of_eq (Nat.zero_add _)) (fun _ _ hM' hT' => c_needFloor hN hf hb hM' hT') ?_
  refine j_aload_n_0 dX4_startDenial_10 ?_
  refine G_X4_25 rfl dX4_startDenial_11 sk_0 sr_0_2 ?_
  refine j_iload_n_1 dX4_startDenial_14 ?_
  refine jv_aald (t := 3) (fun _ => rfl) rfl (by decide) (by decide) dX4_startDenial_15 sk_32 sn_32 (by omega) (by decide) (sr_sta (by omega)) ?_
  refine j_astore_n_3 rfl (by decide) dX4_startDenial_16 ?_
  refine j_aload_n_3 dX4_startDenial_17 ?_
  refine G_X4_115 rfl dX4_startDenial_18 (sk_rum (isRum.of (by omega))) (sr_rum_2 (isRum.of (by omega))) ?_
  refine j_iload_n_2 dX4_startDenial_21 ?_
  refine j_iald dX4_startDenial_22 (sk_rua_1 (isRum.of (by omega))) (sn_rua_1 (isRum.of (by omega))) (by omega) (by decide) ?_
  refine j_iconst (v := nI 2) dX4_startDenial_23 nc_iconst_2 ?_
  refine j_ic_ne (tgt := 37) dX4_startDenial_24 (by decide) (fun h24 => ?_) (fun h24 => ?_)
  · exact absurd hS h24
  · exact T_X4_startDenial hM (Nat.le_of_ble_eq_true rfl) (by omega) (by omega) hX

set_option maxHeartbeats 4000000 in
set_option maxRecDepth 100000 in
theorem e_startDenial_2 {sx : Nat → jv_S} {g : jv_G} {X : jv_X} {T : jv_T} {n : Nat} {V : Nat → Nat → Int32} {L : Nat → Nat → Int64} {k z : Nat} {N K R : Nat} (hC : Ct V N K R) {j : Int32} {f : Int32} (hx : j < 0 ∨ nI R ≤ j) (hk : 1 ≤ k) (hz : 6 ≤ z) (hM : jv_M g X T) (hX : ∀ n', n ≤ n' → T (.inr "java/lang/IndexOutOfBoundsException") n' (SH sx) V L) : jv_J g X I_X4_startDenial 0 [some (jv_r g 0), some (.int j), some (.int f), none, none] [] n (SH sx) V L k z := by
  obtain ⟨hN, hK, hR, hN2, hb, hK4, hR8⟩ := id hC
  refine j_aload_n_0 dX4_startDenial_0 ?_
  refine j_iload_n_1 dX4_startDenial_1 ?_
  exact X_X4_112 (n1 := 0) (sh1 := fun _ => (0, 0, fun _ => none)) (V1 := fun _ _ => 0) (L1 := fun _ _ => 0) rfl (by decide) dX4_startDenial_2 sk_0 (Nat.le_of_ble_eq_true rfl) (show 1 + 0 ≤ k from hk) (show 6 + 0 ≤ z from hz) (fun _ _ hM' hT' => b_needRumour hR (by omega) hx (Nat.le_refl 1) (Nat.le_refl 6) hM' hT') (fun n' hn' => j_out hM rfl (hX n' hn'))

set_option maxHeartbeats 4000000 in
set_option maxRecDepth 100000 in
theorem e_startDenial_7 {sx : Nat → jv_S} {g : jv_G} {X : jv_X} {T : jv_T} {n : Nat} {V : Nat → Nat → Int32} {L : Nat → Nat → Int64} {k z : Nat} {N K R : Nat} (hC : Ct V N K R) {j : Nat} (hj : (j < R)) {f : Int32} (hx : f < 0 ∨ nI N ≤ f) (hk : 1 ≤ k) (hz : 6 ≤ z) (hM : jv_M g X T) (hX : ∀ n', n ≤ n' → T (.inr "java/lang/IndexOutOfBoundsException") n' (SH sx) V L) : jv_J g X I_X4_startDenial 0 [some (jv_r g 0), some (.int (nI j)), some (.int f), none, none] [] n (SH sx) V L k z := by
  obtain ⟨hN, hK, hR, hN2, hb, hK4, hR8⟩ := id hC
  refine j_aload_n_0 dX4_startDenial_0 ?_
  refine j_iload_n_1 dX4_startDenial_1 ?_
  refine C_X4_112 rfl (by decide) dX4_startDenial_2 sk_0 (Nat.le_of_ble_eq_true rfl) (Nat.le_of_eq (Nat.zero_add _)) (Nat.le_of_eq (Nat.zero_add _)) (fun _ _ hM' hT' => c_needRumour hR hj (by omega) hM' hT') ?_
  refine j_aload_n_0 dX4_startDenial_5 ?_
  refine j_iload_n_2 dX4_startDenial_6 ?_
  exact X_X4_49 (n1 := 0) (sh1 := fun _ => (0, 0, fun _ => none)) (V1 := fun _ _ => 0) (L1 := fun _ _ => 0) rfl (by decide) dX4_startDenial_7 sk_0 (Nat.le_of_ble_eq_true rfl) (show 1 + 0 ≤ k from hk) (show 6 + 0 ≤ z from hz) (fun _ _ hM' hT' => b_needFloor hN hb hx (Nat.le_refl 1) (Nat.le_refl 6) hM' hT') (fun n' hn' => j_out hM rfl (hX n' hn'))

def inV (N : Nat) (h : Int32) : Nat → Nat → (Nat → Nat → Int32) → (Nat → Nat → Int32)
  | 0, _, V => V
  | m + 1, i, V => inV N h m (i + 1) (phV V (43 + 10 * i) N h)
def inN (N : Nat) (h : Int32) : Nat → Nat → (Nat → Nat → Int32) → Int32 → Int32
  | 0, _, _, a => a
  | m + 1, i, V, a => inN N h m (i + 1) (phV V (43 + 10 * i) N h) (a + phN V (43 + 10 * i) N h)
/-- an hour of all rumours -/
def alV (N R : Nat) (V : (Nat → Nat → Int32)) : (Nat → Nat → Int32) := jv_U (inV N (V 0 5) R 0 V) 0 5 (V 0 5 + nI 1)
def ouV (N R : Nat) : Nat → (Nat → Nat → Int32) → (Nat → Nat → Int32)
  | 0, V => V
  | m + 1, V => ouV N R m (alV N R V)
def ouN (N R : Nat) : Nat → (Nat → Nat → Int32) → Int32 → Int32
  | 0, _, a => a
  | m + 1, V, a => ouN N R m (alV N R V) (inN N (V 0 5) R 0 V a)
theorem inV_out {N q : Nat} {h : Int32} (h1 : q < 43) : ∀ m i V, inV N h m i V q = V q := by
  intro m
  induction m with
  | zero => intro i V; rfl
  | succ m ih =>
    intro i V
    show inV N h m (i + 1) _ q = _
    rw [ih, phV_out (by unfold Rout; omega)]
theorem alV_Ct {V : Nat → Nat → Int32} {N K R : Nat} (h : Ct V N K R) : Ct (alV N R V) N K R := by
  unfold alV
  exact h.to (by rw [jv_Unj (by omega), inV_out (by omega)]) (by rw [jv_U_other (by omega), inV_out (by omega)])

set_option maxHeartbeats 4000000 in
set_option maxRecDepth 100000 in
theorem c_hours_in {sx : Nat → jv_S} {g : jv_G} {X : jv_X} {T : jv_T} {n : Nat} {V : Nat → Nat → Int32} {L : Nat → Nat → Int64} {k z : Nat} {N K R p m0 : Nat} {h : Int32} : ∀ (m : Nat) (i : Nat) (V : (Nat → Nat → Int32)) (x2 : Int32), Ct V N K R → V 0 5 = h → i ≤ R → R + 1 ≤ i + m → (∀ V' a', Ct V' N K R → V' 0 5 = h → V' = inV N h (R - i) i V → a' = inN N h (R - i) i V x2 → jv_J g X I_X4_passHours 55 [some (jv_r g 0), some (.int (nI m0)), some (.int a'), some (.int (nI p)), some (.int (nI R))] [] n (SH sx) V' L k z) → jv_J g X I_X4_passHours 19 [some (jv_r g 0), some (.int (nI m0)), some (.int x2), some (.int (nI p)), some (.int (nI i))] [] n (SH sx) V L k z := by
  intro m
  induction m with
  | zero => intro i V x2 hC hh hi him kk; omega
  | succ m ih =>
  intro i V x2 hC hh hi him kk
  obtain ⟨hN, hK, hR, hN2, hb, hK4, hR8⟩ := id hC
  refine j_iload_4 dX4_passHours_19 ?_
  refine j_aload_n_0 dX4_passHours_21 ?_
  refine G_X4_34 rfl dX4_passHours_22 sk_0 ?_
  refine j_top (y := nI R) hR ?_
  refine j_ic_geN (by omega) (by omega) (tgt := 55) dX4_passHours_25 (by decide) (fun h25 => ?_) (fun h25 => ?_)
  · have ei : i = R := by omega
    subst ei
    exact kk V x2 hC hh (by rw [show i - i = 0 by omega]; rfl) (by rw [show i - i = 0 by omega]; rfl)
  · refine j_iload_n_2 dX4_passHours_28 ?_
    refine j_aload_n_0 dX4_passHours_29 ?_
    refine G_X4_25 rfl dX4_passHours_30 sk_0 sr_0_2 ?_
    refine j_iload_4 dX4_passHours_33 ?_
    refine jv_aald (t := 3) (fun _ => rfl) rfl (by decide) (by decide) dX4_passHours_35 sk_32 sn_32 (by omega) (by decide) (sr_sta (by omega)) ?_
    refine j_aload_n_0 dX4_passHours_36 ?_
    refine G_X4_10 rfl dX4_passHours_37 sk_0 sr_0_0 ?_
    refine j_aload_n_0 dX4_passHours_40 ?_
    refine G_X4_38 rfl dX4_passHours_41 sk_0 ?_
    refine j_top (y := h) hh ?_
    refine C_X4_124 rfl (by decide) dX4_passHours_44 (sk_rum (isRum.of (by omega))) (Nat.le_of_ble_eq_true rfl) (Nat.le_of_eq (Nat.zero_add _)) (Nat.le_of_eq (Nat.zero_add _)) (fun _ _ hM' hT' => c_passHour (isRum.of (by omega)) hN hb hM' hT') ?_
    refine j_iadd dX4_passHours_47 ?_
    refine j_istore_n_2 rfl (by decide) dX4_passHours_48 ?_
    refine j_inc1_4 rfl (by decide) dX4_passHours_49 ?_
    refine j_goto (tgt := 19) dX4_passHours_52 (by decide) ?_
    refine ih (i + 1) _ _ (hC.o (phV_out (by unfold Rout; omega)) (phV_out (by unfold Rout; omega))) (by rw [phV_out (by unfold Rout; omega)]; exact hh) (by omega) (by omega) ?_
    intro V' a' hC' hh' e1 e2
    exact kk V' a' hC' hh' (by rw [show R - i = (R - (i + 1)) + 1 by omega]; exact e1) (by rw [show R - i = (R - (i + 1)) + 1 by omega]; exact e2)

set_option maxHeartbeats 4000000 in
set_option maxRecDepth 100000 in
theorem c_hours_out {sx : Nat → jv_S} {g : jv_G} {X : jv_X} {T : jv_T} {n : Nat} {V : Nat → Nat → Int32} {L : Nat → Nat → Int64} {k z : Nat} {N K R m0 : Nat} (hm0 : m0 ≤ 60) (hM : jv_M g X T) : ∀ (m : Nat) (i : Nat) (V : (Nat → Nat → Int32)) (x2 : Int32) (v4 : Option Value), Ct V N K R → i ≤ m0 → m0 + 1 ≤ i + m → T (.inl (some (.int (ouN N R (m0 - i) V x2)))) n (SH sx) (ouV N R (m0 - i) V) L → jv_J g X I_X4_passHours 11 [some (jv_r g 0), some (.int (nI m0)), some (.int x2), some (.int (nI i)), v4] [] n (SH sx) V L k z := by
  intro m
  induction m with
  | zero => intro i V x2 v4 hC hi him hT; omega
  | succ m ih =>
  intro i V x2 v4 hC hi him hT
  obtain ⟨hN, hK, hR, hN2, hb, hK4, hR8⟩ := id hC
  refine j_iload_n_3 dX4_passHours_11 ?_
  refine j_iload_n_1 dX4_passHours_12 ?_
  refine j_ic_geN (by omega) (by omega) (tgt := 71) dX4_passHours_13 (by decide) (fun h13 => ?_) (fun h13 => ?_)
  · refine j_iload_n_2 dX4_passHours_71 ?_
    exact j_iret hM dX4_passHours_72 rfl (by rw [show m0 - i = 0 by omega] at hT; exact hT)
  · refine j_iconst (v := nI 0) dX4_passHours_16 nc_iconst_0 ?_
    refine j_istore_4 rfl (by decide) dX4_passHours_17 ?_
    refine c_hours_in (T := T) (K := K) (R := R) (V := V) (h := V 0 5) (R + 1) 0 V x2 hC rfl (by omega) (by omega) ?_
    intro V' a' hC' hh' e1 e2
    subst e1
    subst e2
    refine j_aload_n_0 dX4_passHours_55 ?_
    refine j_dup rfl dX4_passHours_56 ?_
    refine G_X4_38 rfl dX4_passHours_57 sk_0 ?_
    refine j_top (y := V 0 5) hh' ?_
    refine j_iconst (v := nI 1) dX4_passHours_60 nc_iconst_1 ?_
    refine j_iadd dX4_passHours_61 ?_
    refine P_X4_38 rfl dX4_passHours_62 sk_0 ?_
    refine j_inc1_3 rfl (by decide) dX4_passHours_65 ?_
    refine j_goto (tgt := 11) dX4_passHours_68 (by decide) ?_
    refine ih (i + 1) _ _ _ (alV_Ct hC) (by omega) (by omega) ?_
    rw [show m0 - i = (m0 - (i + 1)) + 1 by omega] at hT
    exact hT

set_option maxHeartbeats 4000000 in
set_option maxRecDepth 100000 in
theorem g_passHours {sx : Nat → jv_S} {g : jv_G} {X : jv_X} {T : jv_T} {n : Nat} {V : Nat → Nat → Int32} {L : Nat → Nat → Int64} {k z : Nat} {N K R : Nat} (hC : Ct V N K R) {m : Nat} (hm1 : 1 ≤ m) (hm : m ≤ 60) (hM : jv_M g X T) (hT : T (.inl (some (.int (ouN N R m V (nI 0))))) n (SH sx) (ouV N R m V) L) : jv_J g X I_X4_passHours 0 [some (jv_r g 0), some (.int (nI m)), none, none, none] [] n (SH sx) V L k z := by
  obtain ⟨hN, hK, hR, hN2, hb, hK4, hR8⟩ := id hC
  refine j_iload_n_1 dX4_passHours_0 ?_
  refine j_iconst (v := nI 1) dX4_passHours_1 nc_iconst_1 ?_
  refine j_bipush (v := nI 60) dX4_passHours_2 nc_bipush_60 ?_
  refine C_X4_41 rfl (by decide) dX4_passHours_4 (Nat.le_of_ble_eq_true rfl) (Nat.le_of_eq (Nat.zero_add _)) (Nat.le_of_eq (Nat.zero_add _)) (fun _ _ hM' hT' => c_needArgument (nI_nlt hm1 (by omega)) (nI_le hm (by omega)) hM' hT') ?_
  refine j_iconst (v := nI 0) dX4_passHours_7 nc_iconst_0 ?_
  refine j_istore_n_2 rfl (by decide) dX4_passHours_8 ?_
  refine j_iconst (v := nI 0) dX4_passHours_9 nc_iconst_0 ?_
  refine j_istore_n_3 rfl (by decide) dX4_passHours_10 ?_
  exact c_hours_out (V := V) hm hM (m + 1) 0 V _ _ hC (by omega) (by omega) hT

set_option maxHeartbeats 4000000 in
set_option maxRecDepth 100000 in
theorem e_passHours_4 {sx : Nat → jv_S} {g : jv_G} {X : jv_X} {T : jv_T} {n : Nat} {V : Nat → Nat → Int32} {L : Nat → Nat → Int64} {k z : Nat} {x : Int32} (hx : x < nI 1 ∨ nI 60 < x) (hk : 1 ≤ k) (hz : 6 ≤ z) (hM : jv_M g X T) (hX : ∀ n', n ≤ n' → T (.inr "java/lang/IllegalArgumentException") n' (SH sx) V L) : jv_J g X I_X4_passHours 0 [some (jv_r g 0), some (.int x), none, none, none] [] n (SH sx) V L k z := by
  refine j_iload_n_1 dX4_passHours_0 ?_
  refine j_iconst (v := nI 1) dX4_passHours_1 nc_iconst_1 ?_
  refine j_bipush (v := nI 60) dX4_passHours_2 nc_bipush_60 ?_
  exact X_X4_41 (n1 := 0) (sh1 := fun _ => (0, 0, fun _ => none)) (V1 := fun _ _ => 0) (L1 := fun _ _ => 0) rfl (by decide) dX4_passHours_4 (Nat.le_of_ble_eq_true rfl) (show 1 + 0 ≤ k from hk) (show 6 + 0 ≤ z from hz) (fun _ _ hM' hT' => b_needArgument hx (Nat.le_refl 1) (Nat.le_refl 6) hM' hT') (fun n' hn' => j_out hM rfl (hX n' hn'))

set_option maxHeartbeats 4000000 in
set_option maxRecDepth 100000 in
theorem g_floors {sx : Nat → jv_S} {g : jv_G} {X : jv_X} {T : jv_T} {n : Nat} {V : Nat → Nat → Int32} {L : Nat → Nat → Int64} {k z : Nat} {N K R : Nat} (hC : Ct V N K R)  (hM : jv_M g X T) (hT : T (.inl (some (.int (nI N)))) n (SH sx) (V) L) : jv_J g X I_X4_floors 0 [some (jv_r g 0)] [] n (SH sx) V L k z := by
  obtain ⟨hN, hK, hR, hN2, hb, hK4, hR8⟩ := id hC
  refine j_aload_n_0 dX4_floors_0 ?_
  refine G_X4_10 rfl dX4_floors_1 sk_0 sr_0_0 ?_
  refine G_X4_128 rfl dX4_floors_4 sk_1 ?_
  refine j_top (y := nI N) hN ?_
  exact j_iret hM dX4_floors_7 rfl hT

set_option maxHeartbeats 4000000 in
set_option maxRecDepth 100000 in
theorem g_hours {sx : Nat → jv_S} {g : jv_G} {X : jv_X} {T : jv_T} {n : Nat} {V : Nat → Nat → Int32} {L : Nat → Nat → Int64} {k z : Nat} {N K R : Nat} (hC : Ct V N K R)  (hM : jv_M g X T) (hT : T (.inl (some (.int (V 0 5)))) n (SH sx) (V) L) : jv_J g X I_X4_hours 0 [some (jv_r g 0)] [] n (SH sx) V L k z := by
  obtain ⟨hN, hK, hR, hN2, hb, hK4, hR8⟩ := id hC
  refine j_aload_n_0 dX4_hours_0 ?_
  refine G_X4_38 rfl dX4_hours_1 sk_0 ?_
  exact j_iret hM dX4_hours_4 rfl hT

set_option maxHeartbeats 4000000 in
set_option maxRecDepth 100000 in
theorem g_lifts {sx : Nat → jv_S} {g : jv_G} {X : jv_X} {T : jv_T} {n : Nat} {V : Nat → Nat → Int32} {L : Nat → Nat → Int64} {k z : Nat} {N K R : Nat} (hC : Ct V N K R)  (hM : jv_M g X T) (hT : T (.inl (some (.int (nI K)))) n (SH sx) (V) L) : jv_J g X I_X4_lifts 0 [some (jv_r g 0)] [] n (SH sx) V L k z := by
  obtain ⟨hN, hK, hR, hN2, hb, hK4, hR8⟩ := id hC
  refine j_aload_n_0 dX4_lifts_0 ?_
  refine G_X4_10 rfl dX4_lifts_1 sk_0 sr_0_0 ?_
  refine G_X4_76 rfl dX4_lifts_4 sk_1 ?_
  refine j_top (y := nI K) hK ?_
  exact j_iret hM dX4_lifts_7 rfl hT

set_option maxHeartbeats 4000000 in
set_option maxRecDepth 100000 in
theorem g_rumours {sx : Nat → jv_S} {g : jv_G} {X : jv_X} {T : jv_T} {n : Nat} {V : Nat → Nat → Int32} {L : Nat → Nat → Int64} {k z : Nat} {N K R : Nat} (hC : Ct V N K R)  (hM : jv_M g X T) (hT : T (.inl (some (.int (nI R)))) n (SH sx) (V) L) : jv_J g X I_X4_rumours 0 [some (jv_r g 0)] [] n (SH sx) V L k z := by
  obtain ⟨hN, hK, hR, hN2, hb, hK4, hR8⟩ := id hC
  refine j_aload_n_0 dX4_rumours_0 ?_
  refine G_X4_34 rfl dX4_rumours_1 sk_0 ?_
  refine j_top (y := nI R) hR ?_
  exact j_iret hM dX4_rumours_4 rfl hT

set_option maxHeartbeats 4000000 in
set_option maxRecDepth 100000 in
theorem g_headsOf {sx : Nat → jv_S} {g : jv_G} {X : jv_X} {T : jv_T} {n : Nat} {V : Nat → Nat → Int32} {L : Nat → Nat → Int64} {k z : Nat} {N K R : Nat} (hC : Ct V N K R) {f : Nat} (hf : (f < N))  (hM : jv_M g X T) (hT : T (.inl (some (.int (V 2 f)))) n (SH sx) (V) L) : jv_J g X I_X4_headsOf 0 [some (jv_r g 0), some (.int (nI f))] [] n (SH sx) V L k z := by
  obtain ⟨hN, hK, hR, hN2, hb, hK4, hR8⟩ := id hC
  refine j_aload_n_0 dX4_headsOf_0 ?_
  refine j_iload_n_1 dX4_headsOf_1 ?_
  refine C_X4_49 rfl (by decide) dX4_headsOf_2 sk_0 (Nat.le_of_ble_eq_true rfl) (Nat.le_of_eq (Nat.zero_add _)) (Nat.le_of_eq (Nat.zero_add _)) (fun _ _ hM' hT' => c_needFloor hN hf hb hM' hT') ?_
  refine j_aload_n_0 dX4_headsOf_5 ?_
  refine G_X4_10 rfl dX4_headsOf_6 sk_0 sr_0_0 ?_
  refine G_X4_56 rfl dX4_headsOf_9 sk_1 sr_1_2 ?_
  refine j_iload_n_1 dX4_headsOf_12 ?_
  refine j_iald dX4_headsOf_13 sk_2 sn_2 (by omega) (by decide) ?_
  exact j_iret hM dX4_headsOf_14 rfl hT

set_option maxHeartbeats 4000000 in
set_option maxRecDepth 100000 in
theorem e_headsOf_2 {sx : Nat → jv_S} {g : jv_G} {X : jv_X} {T : jv_T} {n : Nat} {V : Nat → Nat → Int32} {L : Nat → Nat → Int64} {k z : Nat} {N K R : Nat} (hC : Ct V N K R) {f : Int32} (hx : f < 0 ∨ nI N ≤ f) (hk : 1 ≤ k) (hz : 6 ≤ z) (hM : jv_M g X T) (hX : ∀ n', n ≤ n' → T (.inr "java/lang/IndexOutOfBoundsException") n' (SH sx) V L) : jv_J g X I_X4_headsOf 0 [some (jv_r g 0), some (.int f)] [] n (SH sx) V L k z := by
  obtain ⟨hN, hK, hR, hN2, hb, hK4, hR8⟩ := id hC
  refine j_aload_n_0 dX4_headsOf_0 ?_
  refine j_iload_n_1 dX4_headsOf_1 ?_
  exact X_X4_49 (n1 := 0) (sh1 := fun _ => (0, 0, fun _ => none)) (V1 := fun _ _ => 0) (L1 := fun _ _ => 0) rfl (by decide) dX4_headsOf_2 sk_0 (Nat.le_of_ble_eq_true rfl) (show 1 + 0 ≤ k from hk) (show 6 + 0 ≤ z from hz) (fun _ _ hM' hT' => b_needFloor hN hb hx (Nat.le_refl 1) (Nat.le_refl 6) hM' hT') (fun n' hn' => j_out hM rfl (hX n' hn'))

set_option maxHeartbeats 4000000 in
set_option maxRecDepth 100000 in
theorem g_stayOf {sx : Nat → jv_S} {g : jv_G} {X : jv_X} {T : jv_T} {n : Nat} {V : Nat → Nat → Int32} {L : Nat → Nat → Int64} {k z : Nat} {N K R : Nat} (hC : Ct V N K R) {f : Nat} (hf : (f < N))  (hM : jv_M g X T) (hT : T (.inl (some (.int (V 3 f)))) n (SH sx) (V) L) : jv_J g X I_X4_stayOf 0 [some (jv_r g 0), some (.int (nI f))] [] n (SH sx) V L k z := by
  obtain ⟨hN, hK, hR, hN2, hb, hK4, hR8⟩ := id hC
  refine j_aload_n_0 dX4_stayOf_0 ?_
  refine j_iload_n_1 dX4_stayOf_1 ?_
  refine C_X4_49 rfl (by decide) dX4_stayOf_2 sk_0 (Nat.le_of_ble_eq_true rfl) (Nat.le_of_eq (Nat.zero_add _)) (Nat.le_of_eq (Nat.zero_add _)) (fun _ _ hM' hT' => c_needFloor hN hf hb hM' hT') ?_
  refine j_aload_n_0 dX4_stayOf_5 ?_
  refine G_X4_10 rfl dX4_stayOf_6 sk_0 sr_0_0 ?_
  refine G_X4_52 rfl dX4_stayOf_9 sk_1 sr_1_3 ?_
  refine j_iload_n_1 dX4_stayOf_12 ?_
  refine j_iald dX4_stayOf_13 sk_3 sn_3 (by omega) (by decide) ?_
  exact j_iret hM dX4_stayOf_14 rfl hT

set_option maxHeartbeats 4000000 in
set_option maxRecDepth 100000 in
theorem e_stayOf_2 {sx : Nat → jv_S} {g : jv_G} {X : jv_X} {T : jv_T} {n : Nat} {V : Nat → Nat → Int32} {L : Nat → Nat → Int64} {k z : Nat} {N K R : Nat} (hC : Ct V N K R) {f : Int32} (hx : f < 0 ∨ nI N ≤ f) (hk : 1 ≤ k) (hz : 6 ≤ z) (hM : jv_M g X T) (hX : ∀ n', n ≤ n' → T (.inr "java/lang/IndexOutOfBoundsException") n' (SH sx) V L) : jv_J g X I_X4_stayOf 0 [some (jv_r g 0), some (.int f)] [] n (SH sx) V L k z := by
  obtain ⟨hN, hK, hR, hN2, hb, hK4, hR8⟩ := id hC
  refine j_aload_n_0 dX4_stayOf_0 ?_
  refine j_iload_n_1 dX4_stayOf_1 ?_
  exact X_X4_49 (n1 := 0) (sh1 := fun _ => (0, 0, fun _ => none)) (V1 := fun _ _ => 0) (L1 := fun _ _ => 0) rfl (by decide) dX4_stayOf_2 sk_0 (Nat.le_of_ble_eq_true rfl) (show 1 + 0 ≤ k from hk) (show 6 + 0 ≤ z from hz) (fun _ _ hM' hT' => b_needFloor hN hb hx (Nat.le_refl 1) (Nat.le_refl 6) hM' hT') (fun n' hn' => j_out hM rfl (hX n' hn'))

set_option maxHeartbeats 4000000 in
set_option maxRecDepth 100000 in
theorem g_stairsOf {sx : Nat → jv_S} {g : jv_G} {X : jv_X} {T : jv_T} {n : Nat} {V : Nat → Nat → Int32} {L : Nat → Nat → Int64} {k z : Nat} {N K R : Nat} (hC : Ct V N K R) {f : Nat} (hf : (f + 1 < N))  (hM : jv_M g X T) (hT : T (.inl (some (.int (V 4 f)))) n (SH sx) (V) L) : jv_J g X I_X4_stairsOf 0 [some (jv_r g 0), some (.int (nI f))] [] n (SH sx) V L k z := by
  obtain ⟨hN, hK, hR, hN2, hb, hK4, hR8⟩ := id hC
  refine j_aload_n_0 dX4_stairsOf_0 ?_
  refine j_iload_n_1 dX4_stairsOf_1 ?_
  refine C_X4_59 rfl (by decide) dX4_stairsOf_2 sk_0 (Nat.le_of_ble_eq_true rfl) (Nat.le_of_eq (Nat.zero_add _)) (Nat.le_of_eq (Nat.zero_add _)) (fun _ _ hM' hT' => c_needStairs hN hf hb hM' hT') ?_
  refine j_aload_n_0 dX4_stairsOf_5 ?_
  refine G_X4_10 rfl dX4_stairsOf_6 sk_0 sr_0_0 ?_
  refine G_X4_62 rfl dX4_stairsOf_9 sk_1 sr_1_4 ?_
  refine j_iload_n_1 dX4_stairsOf_12 ?_
  refine j_iald dX4_stairsOf_13 sk_4 sn_4 (by omega) (by decide) ?_
  exact j_iret hM dX4_stairsOf_14 rfl hT

set_option maxHeartbeats 4000000 in
set_option maxRecDepth 100000 in
theorem e_stairsOf_2 {sx : Nat → jv_S} {g : jv_G} {X : jv_X} {T : jv_T} {n : Nat} {V : Nat → Nat → Int32} {L : Nat → Nat → Int64} {k z : Nat} {N K R : Nat} (hC : Ct V N K R) {f : Int32} (hx : f < 0 ∨ nI (N - 1) ≤ f) (hk : 1 ≤ k) (hz : 6 ≤ z) (hM : jv_M g X T) (hX : ∀ n', n ≤ n' → T (.inr "java/lang/IndexOutOfBoundsException") n' (SH sx) V L) : jv_J g X I_X4_stairsOf 0 [some (jv_r g 0), some (.int f)] [] n (SH sx) V L k z := by
  obtain ⟨hN, hK, hR, hN2, hb, hK4, hR8⟩ := id hC
  refine j_aload_n_0 dX4_stairsOf_0 ?_
  refine j_iload_n_1 dX4_stairsOf_1 ?_
  exact X_X4_59 (n1 := 0) (sh1 := fun _ => (0, 0, fun _ => none)) (V1 := fun _ _ => 0) (L1 := fun _ _ => 0) rfl (by decide) dX4_stairsOf_2 sk_0 (Nat.le_of_ble_eq_true rfl) (show 1 + 0 ≤ k from hk) (show 6 + 0 ≤ z from hz) (fun _ _ hM' hT' => b_needStairs hN (by omega) hb hx (Nat.le_refl 1) (Nat.le_refl 6) hM' hT') (fun n' hn' => j_out hM rfl (hX n' hn'))

set_option maxHeartbeats 4000000 in
set_option maxRecDepth 100000 in
theorem g_isOpen {sx : Nat → jv_S} {g : jv_G} {X : jv_X} {T : jv_T} {n : Nat} {V : Nat → Nat → Int32} {L : Nat → Nat → Int64} {k z : Nat} {N K R : Nat} (hC : Ct V N K R) {f : Nat} (hf : (f + 1 < N)) (hx : V 5 f = 0 ∨ V 5 f = 1) (hM : jv_M g X T) (hT : T (.inl (some (.int (V 5 f)))) n (SH sx) (V) L) : jv_J g X I_X4_isOpen 0 [some (jv_r g 0), some (.int (nI f))] [] n (SH sx) V L k z := by
  obtain ⟨hN, hK, hR, hN2, hb, hK4, hR8⟩ := id hC
  refine j_aload_n_0 dX4_isOpen_0 ?_
  refine j_iload_n_1 dX4_isOpen_1 ?_
  refine C_X4_59 rfl (by decide) dX4_isOpen_2 sk_0 (Nat.le_of_ble_eq_true rfl) (Nat.le_of_eq (Nat.zero_add _)) (Nat.le_of_eq (Nat.zero_add _)) (fun _ _ hM' hT' => c_needStairs hN hf hb hM' hT') ?_
  refine j_aload_n_0 dX4_isOpen_5 ?_
  refine G_X4_10 rfl dX4_isOpen_6 sk_0 sr_0_0 ?_
  refine G_X4_68 rfl dX4_isOpen_9 sk_1 sr_1_5 ?_
  refine j_iload_n_1 dX4_isOpen_12 ?_
  refine j_bald dX4_isOpen_13 sk_5 sn_5 (by omega) (by decide) ?_
  exact j_zret hM dX4_isOpen_14 rfl (jv_b01 (by first | exact Or.inl rfl | exact Or.inr rfl | assumption)) hT

set_option maxHeartbeats 4000000 in
set_option maxRecDepth 100000 in
theorem e_isOpen_2 {sx : Nat → jv_S} {g : jv_G} {X : jv_X} {T : jv_T} {n : Nat} {V : Nat → Nat → Int32} {L : Nat → Nat → Int64} {k z : Nat} {N K R : Nat} (hC : Ct V N K R) {f : Int32} (hx : f < 0 ∨ nI (N - 1) ≤ f) (hk : 1 ≤ k) (hz : 6 ≤ z) (hM : jv_M g X T) (hX : ∀ n', n ≤ n' → T (.inr "java/lang/IndexOutOfBoundsException") n' (SH sx) V L) : jv_J g X I_X4_isOpen 0 [some (jv_r g 0), some (.int f)] [] n (SH sx) V L k z := by
  obtain ⟨hN, hK, hR, hN2, hb, hK4, hR8⟩ := id hC
  refine j_aload_n_0 dX4_isOpen_0 ?_
  refine j_iload_n_1 dX4_isOpen_1 ?_
  exact X_X4_59 (n1 := 0) (sh1 := fun _ => (0, 0, fun _ => none)) (V1 := fun _ _ => 0) (L1 := fun _ _ => 0) rfl (by decide) dX4_isOpen_2 sk_0 (Nat.le_of_ble_eq_true rfl) (show 1 + 0 ≤ k from hk) (show 6 + 0 ≤ z from hz) (fun _ _ hM' hT' => b_needStairs hN (by omega) hb hx (Nat.le_refl 1) (Nat.le_refl 6) hM' hT') (fun n' hn' => j_out hM rfl (hX n' hn'))

set_option maxHeartbeats 4000000 in
set_option maxRecDepth 100000 in
theorem g_runs {sx : Nat → jv_S} {g : jv_G} {X : jv_X} {T : jv_T} {n : Nat} {V : Nat → Nat → Int32} {L : Nat → Nat → Int64} {k z : Nat} {N K R : Nat} (hC : Ct V N K R) {l : Nat} (hl : (l < K)) (hx : V (20 + 2 * l) 0 = 0 ∨ V (20 + 2 * l) 0 = 1) (hM : jv_M g X T) (hT : T (.inl (some (.int (V (20 + 2 * l) 0)))) n (SH sx) (V) L) : jv_J g X I_X4_runs 0 [some (jv_r g 0), some (.int (nI l))] [] n (SH sx) V L k z := by
  obtain ⟨hN, hK, hR, hN2, hb, hK4, hR8⟩ := id hC
  refine j_aload_n_0 dX4_runs_0 ?_
  refine j_iload_n_1 dX4_runs_1 ?_
  refine C_X4_90 rfl (by decide) dX4_runs_2 sk_0 (Nat.le_of_ble_eq_true rfl) (Nat.le_of_eq (Nat.zero_add _)) (Nat.le_of_eq (Nat.zero_add _)) (fun _ _ hM' hT' => c_needLift hK hl (by omega) hM' hT') ?_
  refine j_aload_n_0 dX4_runs_5 ?_
  refine G_X4_10 rfl dX4_runs_6 sk_0 sr_0_0 ?_
  refine G_X4_93 rfl dX4_runs_9 sk_1 sr_1_6 ?_
  refine j_iload_n_1 dX4_runs_12 ?_
  refine jv_aald (t := 4) (fun _ => rfl) rfl (by decide) (by decide) dX4_runs_13 sk_6 sn_6 (by omega) (by decide) (sr_lif (by omega)) ?_
  refine G_X4_97 rfl dX4_runs_14 (sk_lif (isLif.of (by omega))) ?_
  exact j_zret hM dX4_runs_17 rfl (jv_b01 (by first | exact Or.inl rfl | exact Or.inr rfl | assumption)) hT

set_option maxHeartbeats 4000000 in
set_option maxRecDepth 100000 in
theorem e_runs_2 {sx : Nat → jv_S} {g : jv_G} {X : jv_X} {T : jv_T} {n : Nat} {V : Nat → Nat → Int32} {L : Nat → Nat → Int64} {k z : Nat} {N K R : Nat} (hC : Ct V N K R) {l : Int32} (hx : l < 0 ∨ nI K ≤ l) (hk : 1 ≤ k) (hz : 6 ≤ z) (hM : jv_M g X T) (hX : ∀ n', n ≤ n' → T (.inr "java/lang/IndexOutOfBoundsException") n' (SH sx) V L) : jv_J g X I_X4_runs 0 [some (jv_r g 0), some (.int l)] [] n (SH sx) V L k z := by
  obtain ⟨hN, hK, hR, hN2, hb, hK4, hR8⟩ := id hC
  refine j_aload_n_0 dX4_runs_0 ?_
  refine j_iload_n_1 dX4_runs_1 ?_
  exact X_X4_90 (n1 := 0) (sh1 := fun _ => (0, 0, fun _ => none)) (V1 := fun _ _ => 0) (L1 := fun _ _ => 0) rfl (by decide) dX4_runs_2 sk_0 (Nat.le_of_ble_eq_true rfl) (show 1 + 0 ≤ k from hk) (show 6 + 0 ≤ z from hz) (fun _ _ hM' hT' => b_needLift hK (by omega) hx (Nat.le_refl 1) (Nat.le_refl 6) hM' hT') (fun n' hn' => j_out hM rfl (hX n' hn'))

set_option maxHeartbeats 4000000 in
set_option maxRecDepth 100000 in
theorem g_pipe {sx : Nat → jv_S} {g : jv_G} {X : jv_X} {T : jv_T} {n : Nat} {V : Nat → Nat → Int32} {L : Nat → Nat → Int64} {k z : Nat} {N K R : Nat} (hC : Ct V N K R) {f : Nat} (hf : (f < N)) {t : Nat} (ht : (t < N))  (hM : jv_M g X T) (hT : T (.inl (some (.int (V (8 + f) t)))) n (SH sx) (V) L) : jv_J g X I_X4_pipe 0 [some (jv_r g 0), some (.int (nI f)), some (.int (nI t))] [] n (SH sx) V L k z := by
  obtain ⟨hN, hK, hR, hN2, hb, hK4, hR8⟩ := id hC
  refine j_aload_n_0 dX4_pipe_0 ?_
  refine j_iload_n_1 dX4_pipe_1 ?_
  refine C_X4_49 rfl (by decide) dX4_pipe_2 sk_0 (Nat.le_of_ble_eq_true rfl) (Nat.le_of_eq (Nat.zero_add _)) (Nat.le_of_eq (Nat.zero_add _)) (fun _ _ hM' hT' => c_needFloor hN hf hb hM' hT') ?_
  refine j_aload_n_0 dX4_pipe_5 ?_
  refine j_iload_n_2 dX4_pipe_6 ?_
  refine C_X4_49 rfl (by decide) dX4_pipe_7 sk_0 (Nat.le_of_ble_eq_true rfl) (Nat.le_of_eq (Nat.zero_add _)) (Nat.le_of_eq (Nat.zero_add _)) (fun _ _ hM' hT' => c_needFloor hN ht hb hM' hT') ?_
  refine j_aload_n_0 dX4_pipe_10 ?_
  refine G_X4_10 rfl dX4_pipe_11 sk_0 sr_0_0 ?_
  refine G_X4_134 rfl dX4_pipe_14 sk_1 sr_1_7 ?_
  refine j_iload_n_1 dX4_pipe_17 ?_
  refine jv_aald (t := 5) (fun _ => rfl) rfl (by decide) (by decide) dX4_pipe_18 sk_7 sn_7 (by omega) (by decide) (sr_row (by omega)) ?_
  refine j_iload_n_2 dX4_pipe_19 ?_
  refine j_iald dX4_pipe_20 (sk_row (by omega)) (sn_row (by omega)) (by omega) (by decide) ?_
  exact j_iret hM dX4_pipe_21 rfl hT

set_option maxHeartbeats 4000000 in
set_option maxRecDepth 100000 in
theorem e_pipe_2 {sx : Nat → jv_S} {g : jv_G} {X : jv_X} {T : jv_T} {n : Nat} {V : Nat → Nat → Int32} {L : Nat → Nat → Int64} {k z : Nat} {N K R : Nat} (hC : Ct V N K R) {f : Int32} {t : Int32} (hx : f < 0 ∨ nI N ≤ f) (hk : 1 ≤ k) (hz : 6 ≤ z) (hM : jv_M g X T) (hX : ∀ n', n ≤ n' → T (.inr "java/lang/IndexOutOfBoundsException") n' (SH sx) V L) : jv_J g X I_X4_pipe 0 [some (jv_r g 0), some (.int f), some (.int t)] [] n (SH sx) V L k z := by
  obtain ⟨hN, hK, hR, hN2, hb, hK4, hR8⟩ := id hC
  refine j_aload_n_0 dX4_pipe_0 ?_
  refine j_iload_n_1 dX4_pipe_1 ?_
  exact X_X4_49 (n1 := 0) (sh1 := fun _ => (0, 0, fun _ => none)) (V1 := fun _ _ => 0) (L1 := fun _ _ => 0) rfl (by decide) dX4_pipe_2 sk_0 (Nat.le_of_ble_eq_true rfl) (show 1 + 0 ≤ k from hk) (show 6 + 0 ≤ z from hz) (fun _ _ hM' hT' => b_needFloor hN hb hx (Nat.le_refl 1) (Nat.le_refl 6) hM' hT') (fun n' hn' => j_out hM rfl (hX n' hn'))

set_option maxHeartbeats 4000000 in
set_option maxRecDepth 100000 in
theorem e_pipe_7 {sx : Nat → jv_S} {g : jv_G} {X : jv_X} {T : jv_T} {n : Nat} {V : Nat → Nat → Int32} {L : Nat → Nat → Int64} {k z : Nat} {N K R : Nat} (hC : Ct V N K R) {f : Nat} (hf : (f < N)) {t : Int32} (hx : t < 0 ∨ nI N ≤ t) (hk : 1 ≤ k) (hz : 6 ≤ z) (hM : jv_M g X T) (hX : ∀ n', n ≤ n' → T (.inr "java/lang/IndexOutOfBoundsException") n' (SH sx) V L) : jv_J g X I_X4_pipe 0 [some (jv_r g 0), some (.int (nI f)), some (.int t)] [] n (SH sx) V L k z := by
  obtain ⟨hN, hK, hR, hN2, hb, hK4, hR8⟩ := id hC
  refine j_aload_n_0 dX4_pipe_0 ?_
  refine j_iload_n_1 dX4_pipe_1 ?_
  refine C_X4_49 rfl (by decide) dX4_pipe_2 sk_0 (Nat.le_of_ble_eq_true rfl) (Nat.le_of_eq (Nat.zero_add _)) (Nat.le_of_eq (Nat.zero_add _)) (fun _ _ hM' hT' => c_needFloor hN hf hb hM' hT') ?_
  refine j_aload_n_0 dX4_pipe_5 ?_
  refine j_iload_n_2 dX4_pipe_6 ?_
  exact X_X4_49 (n1 := 0) (sh1 := fun _ => (0, 0, fun _ => none)) (V1 := fun _ _ => 0) (L1 := fun _ _ => 0) rfl (by decide) dX4_pipe_7 sk_0 (Nat.le_of_ble_eq_true rfl) (show 1 + 0 ≤ k from hk) (show 6 + 0 ≤ z from hz) (fun _ _ hM' hT' => b_needFloor hN hb hx (Nat.le_refl 1) (Nat.le_refl 6) hM' hT') (fun n' hn' => j_out hM rfl (hX n' hn'))

set_option maxHeartbeats 4000000 in
set_option maxRecDepth 100000 in
theorem g_originOf {sx : Nat → jv_S} {g : jv_G} {X : jv_X} {T : jv_T} {n : Nat} {V : Nat → Nat → Int32} {L : Nat → Nat → Int64} {k z : Nat} {N K R : Nat} (hC : Ct V N K R) {j : Nat} (hj : (j < R))  (hM : jv_M g X T) (hT : T (.inl (some (.int (V (43 + 10 * j) 0)))) n (SH sx) (V) L) : jv_J g X I_X4_originOf 0 [some (jv_r g 0), some (.int (nI j))] [] n (SH sx) V L k z := by
  obtain ⟨hN, hK, hR, hN2, hb, hK4, hR8⟩ := id hC
  refine j_aload_n_0 dX4_originOf_0 ?_
  refine j_iload_n_1 dX4_originOf_1 ?_
  refine C_X4_112 rfl (by decide) dX4_originOf_2 sk_0 (Nat.le_of_ble_eq_true rfl) (Nat.le_of_eq (Nat.zero_add _)) (Nat.le_of_eq (Nat.zero_add _)) (fun _ _ hM' hT' => c_needRumour hR hj (by omega) hM' hT') ?_
  refine j_aload_n_0 dX4_originOf_5 ?_
  refine G_X4_25 rfl dX4_originOf_6 sk_0 sr_0_2 ?_
  refine j_iload_n_1 dX4_originOf_9 ?_
  refine jv_aald (t := 3) (fun _ => rfl) rfl (by decide) (by decide) dX4_originOf_10 sk_32 sn_32 (by omega) (by decide) (sr_sta (by omega)) ?_
  refine G_X4_138 rfl dX4_originOf_11 (sk_rum (isRum.of (by omega))) ?_
  exact j_iret hM dX4_originOf_14 rfl hT

set_option maxHeartbeats 4000000 in
set_option maxRecDepth 100000 in
theorem e_originOf_2 {sx : Nat → jv_S} {g : jv_G} {X : jv_X} {T : jv_T} {n : Nat} {V : Nat → Nat → Int32} {L : Nat → Nat → Int64} {k z : Nat} {N K R : Nat} (hC : Ct V N K R) {j : Int32} (hx : j < 0 ∨ nI R ≤ j) (hk : 1 ≤ k) (hz : 6 ≤ z) (hM : jv_M g X T) (hX : ∀ n', n ≤ n' → T (.inr "java/lang/IndexOutOfBoundsException") n' (SH sx) V L) : jv_J g X I_X4_originOf 0 [some (jv_r g 0), some (.int j)] [] n (SH sx) V L k z := by
  obtain ⟨hN, hK, hR, hN2, hb, hK4, hR8⟩ := id hC
  refine j_aload_n_0 dX4_originOf_0 ?_
  refine j_iload_n_1 dX4_originOf_1 ?_
  exact X_X4_112 (n1 := 0) (sh1 := fun _ => (0, 0, fun _ => none)) (V1 := fun _ _ => 0) (L1 := fun _ _ => 0) rfl (by decide) dX4_originOf_2 sk_0 (Nat.le_of_ble_eq_true rfl) (show 1 + 0 ≤ k from hk) (show 6 + 0 ≤ z from hz) (fun _ _ hM' hT' => b_needRumour hR (by omega) hx (Nat.le_refl 1) (Nat.le_refl 6) hM' hT') (fun n' hn' => j_out hM rfl (hX n' hn'))

set_option maxHeartbeats 4000000 in
set_option maxRecDepth 100000 in
theorem g_reachOf {sx : Nat → jv_S} {g : jv_G} {X : jv_X} {T : jv_T} {n : Nat} {V : Nat → Nat → Int32} {L : Nat → Nat → Int64} {k z : Nat} {N K R : Nat} (hC : Ct V N K R) {j : Nat} (hj : (j < R))  (hM : jv_M g X T) (hT : T (.inl (some (.int (V (43 + 10 * j) 1)))) n (SH sx) (V) L) : jv_J g X I_X4_reachOf 0 [some (jv_r g 0), some (.int (nI j))] [] n (SH sx) V L k z := by
  obtain ⟨hN, hK, hR, hN2, hb, hK4, hR8⟩ := id hC
  refine j_aload_n_0 dX4_reachOf_0 ?_
  refine j_iload_n_1 dX4_reachOf_1 ?_
  refine C_X4_112 rfl (by decide) dX4_reachOf_2 sk_0 (Nat.le_of_ble_eq_true rfl) (Nat.le_of_eq (Nat.zero_add _)) (Nat.le_of_eq (Nat.zero_add _)) (fun _ _ hM' hT' => c_needRumour hR hj (by omega) hM' hT') ?_
  refine j_aload_n_0 dX4_reachOf_5 ?_
  refine G_X4_25 rfl dX4_reachOf_6 sk_0 sr_0_2 ?_
  refine j_iload_n_1 dX4_reachOf_9 ?_
  refine jv_aald (t := 3) (fun _ => rfl) rfl (by decide) (by decide) dX4_reachOf_10 sk_32 sn_32 (by omega) (by decide) (sr_sta (by omega)) ?_
  refine G_X4_141 rfl dX4_reachOf_11 (sk_rum (isRum.of (by omega))) ?_
  exact j_iret hM dX4_reachOf_14 rfl hT

set_option maxHeartbeats 4000000 in
set_option maxRecDepth 100000 in
theorem e_reachOf_2 {sx : Nat → jv_S} {g : jv_G} {X : jv_X} {T : jv_T} {n : Nat} {V : Nat → Nat → Int32} {L : Nat → Nat → Int64} {k z : Nat} {N K R : Nat} (hC : Ct V N K R) {j : Int32} (hx : j < 0 ∨ nI R ≤ j) (hk : 1 ≤ k) (hz : 6 ≤ z) (hM : jv_M g X T) (hX : ∀ n', n ≤ n' → T (.inr "java/lang/IndexOutOfBoundsException") n' (SH sx) V L) : jv_J g X I_X4_reachOf 0 [some (jv_r g 0), some (.int j)] [] n (SH sx) V L k z := by
  obtain ⟨hN, hK, hR, hN2, hb, hK4, hR8⟩ := id hC
  refine j_aload_n_0 dX4_reachOf_0 ?_
  refine j_iload_n_1 dX4_reachOf_1 ?_
  exact X_X4_112 (n1 := 0) (sh1 := fun _ => (0, 0, fun _ => none)) (V1 := fun _ _ => 0) (L1 := fun _ _ => 0) rfl (by decide) dX4_reachOf_2 sk_0 (Nat.le_of_ble_eq_true rfl) (show 1 + 0 ≤ k from hk) (show 6 + 0 ≤ z from hz) (fun _ _ hM' hT' => b_needRumour hR (by omega) hx (Nat.le_refl 1) (Nat.le_refl 6) hM' hT') (fun n' hn' => j_out hM rfl (hX n' hn'))

set_option maxHeartbeats 4000000 in
set_option maxRecDepth 100000 in
theorem g_stateOf {sx : Nat → jv_S} {g : jv_G} {X : jv_X} {T : jv_T} {n : Nat} {V : Nat → Nat → Int32} {L : Nat → Nat → Int64} {k z : Nat} {N K R : Nat} (hC : Ct V N K R) {j : Nat} (hj : (j < R)) {f : Nat} (hf : (f < N))  (hM : jv_M g X T) (hT : T (.inl (some (.int (V (43 + 10 * j + 1) f)))) n (SH sx) (V) L) : jv_J g X I_X4_stateOf 0 [some (jv_r g 0), some (.int (nI j)), some (.int (nI f))] [] n (SH sx) V L k z := by
  obtain ⟨hN, hK, hR, hN2, hb, hK4, hR8⟩ := id hC
  refine j_aload_n_0 dX4_stateOf_0 ?_
  refine j_iload_n_1 dX4_stateOf_1 ?_
  refine C_X4_112 rfl (by decide) dX4_stateOf_2 sk_0 (Nat.le_of_ble_eq_true rfl) (Nat.le_of_eq (Nat.zero_add _)) (Nat.le_of_eq (Nat.zero_add _)) (fun _ _ hM' hT' => c_needRumour hR hj (by omega) hM' hT') ?_
  refine j_aload_n_0 dX4_stateOf_5 ?_
  refine j_iload_n_2 dX4_stateOf_6 ?_
  refine C_X4_49 rfl (by decide) dX4_stateOf_7 sk_0 (Nat.le_of_ble_eq_true rfl) (Nat.le_of_eq (Nat.zero_add _)) (Nat.le_of_eq (Nat.zero_add _)) (fun _ _ hM' hT' => c_needFloor hN hf hb hM' hT') ?_
  refine j_aload_n_0 dX4_stateOf_10 ?_
  refine G_X4_25 rfl dX4_stateOf_11 sk_0 sr_0_2 ?_
  refine j_iload_n_1 dX4_stateOf_14 ?_
  refine jv_aald (t := 3) (fun _ => rfl) rfl (by decide) (by decide) dX4_stateOf_15 sk_32 sn_32 (by omega) (by decide) (sr_sta (by omega)) ?_
  refine G_X4_115 rfl dX4_stateOf_16 (sk_rum (isRum.of (by omega))) (sr_rum_2 (isRum.of (by omega))) ?_
  refine j_iload_n_2 dX4_stateOf_19 ?_
  refine j_iald dX4_stateOf_20 (sk_rua_1 (isRum.of (by omega))) (sn_rua_1 (isRum.of (by omega))) (by omega) (by decide) ?_
  exact j_iret hM dX4_stateOf_21 rfl hT

set_option maxHeartbeats 4000000 in
set_option maxRecDepth 100000 in
theorem e_stateOf_2 {sx : Nat → jv_S} {g : jv_G} {X : jv_X} {T : jv_T} {n : Nat} {V : Nat → Nat → Int32} {L : Nat → Nat → Int64} {k z : Nat} {N K R : Nat} (hC : Ct V N K R) {j : Int32} {f : Int32} (hx : j < 0 ∨ nI R ≤ j) (hk : 1 ≤ k) (hz : 6 ≤ z) (hM : jv_M g X T) (hX : ∀ n', n ≤ n' → T (.inr "java/lang/IndexOutOfBoundsException") n' (SH sx) V L) : jv_J g X I_X4_stateOf 0 [some (jv_r g 0), some (.int j), some (.int f)] [] n (SH sx) V L k z := by
  obtain ⟨hN, hK, hR, hN2, hb, hK4, hR8⟩ := id hC
  refine j_aload_n_0 dX4_stateOf_0 ?_
  refine j_iload_n_1 dX4_stateOf_1 ?_
  exact X_X4_112 (n1 := 0) (sh1 := fun _ => (0, 0, fun _ => none)) (V1 := fun _ _ => 0) (L1 := fun _ _ => 0) rfl (by decide) dX4_stateOf_2 sk_0 (Nat.le_of_ble_eq_true rfl) (show 1 + 0 ≤ k from hk) (show 6 + 0 ≤ z from hz) (fun _ _ hM' hT' => b_needRumour hR (by omega) hx (Nat.le_refl 1) (Nat.le_refl 6) hM' hT') (fun n' hn' => j_out hM rfl (hX n' hn'))

set_option maxHeartbeats 4000000 in
set_option maxRecDepth 100000 in
theorem e_stateOf_7 {sx : Nat → jv_S} {g : jv_G} {X : jv_X} {T : jv_T} {n : Nat} {V : Nat → Nat → Int32} {L : Nat → Nat → Int64} {k z : Nat} {N K R : Nat} (hC : Ct V N K R) {j : Nat} (hj : (j < R)) {f : Int32} (hx : f < 0 ∨ nI N ≤ f) (hk : 1 ≤ k) (hz : 6 ≤ z) (hM : jv_M g X T) (hX : ∀ n', n ≤ n' → T (.inr "java/lang/IndexOutOfBoundsException") n' (SH sx) V L) : jv_J g X I_X4_stateOf 0 [some (jv_r g 0), some (.int (nI j)), some (.int f)] [] n (SH sx) V L k z := by
  obtain ⟨hN, hK, hR, hN2, hb, hK4, hR8⟩ := id hC
  refine j_aload_n_0 dX4_stateOf_0 ?_
  refine j_iload_n_1 dX4_stateOf_1 ?_
  refine C_X4_112 rfl (by decide) dX4_stateOf_2 sk_0 (Nat.le_of_ble_eq_true rfl) (Nat.le_of_eq (Nat.zero_add _)) (Nat.le_of_eq (Nat.zero_add _)) (fun _ _ hM' hT' => c_needRumour hR hj (by omega) hM' hT') ?_
  refine j_aload_n_0 dX4_stateOf_5 ?_
  refine j_iload_n_2 dX4_stateOf_6 ?_
  exact X_X4_49 (n1 := 0) (sh1 := fun _ => (0, 0, fun _ => none)) (V1 := fun _ _ => 0) (L1 := fun _ _ => 0) rfl (by decide) dX4_stateOf_7 sk_0 (Nat.le_of_ble_eq_true rfl) (show 1 + 0 ≤ k from hk) (show 6 + 0 ≤ z from hz) (fun _ _ hM' hT' => b_needFloor hN hb hx (Nat.le_refl 1) (Nat.le_refl 6) hM' hT') (fun n' hn' => j_out hM rfl (hX n' hn'))

set_option maxHeartbeats 4000000 in
set_option maxRecDepth 100000 in
theorem g_heardAt {sx : Nat → jv_S} {g : jv_G} {X : jv_X} {T : jv_T} {n : Nat} {V : Nat → Nat → Int32} {L : Nat → Nat → Int64} {k z : Nat} {N K R : Nat} (hC : Ct V N K R) {j : Nat} (hj : (j < R)) {f : Nat} (hf : (f < N))  (hM : jv_M g X T) (hT : T (.inl (some (.int (V (43 + 10 * j + 2) f)))) n (SH sx) (V) L) : jv_J g X I_X4_heardAt 0 [some (jv_r g 0), some (.int (nI j)), some (.int (nI f))] [] n (SH sx) V L k z := by
  obtain ⟨hN, hK, hR, hN2, hb, hK4, hR8⟩ := id hC
  refine j_aload_n_0 dX4_heardAt_0 ?_
  refine j_iload_n_1 dX4_heardAt_1 ?_
  refine C_X4_112 rfl (by decide) dX4_heardAt_2 sk_0 (Nat.le_of_ble_eq_true rfl) (Nat.le_of_eq (Nat.zero_add _)) (Nat.le_of_eq (Nat.zero_add _)) (fun _ _ hM' hT' => c_needRumour hR hj (by omega) hM' hT') ?_
  refine j_aload_n_0 dX4_heardAt_5 ?_
  refine j_iload_n_2 dX4_heardAt_6 ?_
  refine C_X4_49 rfl (by decide) dX4_heardAt_7 sk_0 (Nat.le_of_ble_eq_true rfl) (Nat.le_of_eq (Nat.zero_add _)) (Nat.le_of_eq (Nat.zero_add _)) (fun _ _ hM' hT' => c_needFloor hN hf hb hM' hT') ?_
  refine j_aload_n_0 dX4_heardAt_10 ?_
  refine G_X4_25 rfl dX4_heardAt_11 sk_0 sr_0_2 ?_
  refine j_iload_n_1 dX4_heardAt_14 ?_
  refine jv_aald (t := 3) (fun _ => rfl) rfl (by decide) (by decide) dX4_heardAt_15 sk_32 sn_32 (by omega) (by decide) (sr_sta (by omega)) ?_
  refine G_X4_144 rfl dX4_heardAt_16 (sk_rum (isRum.of (by omega))) (sr_rum_3 (isRum.of (by omega))) ?_
  refine j_iload_n_2 dX4_heardAt_19 ?_
  refine j_iald dX4_heardAt_20 (sk_rua_2 (isRum.of (by omega))) (sn_rua_2 (isRum.of (by omega))) (by omega) (by decide) ?_
  exact j_iret hM dX4_heardAt_21 rfl hT

set_option maxHeartbeats 4000000 in
set_option maxRecDepth 100000 in
theorem e_heardAt_2 {sx : Nat → jv_S} {g : jv_G} {X : jv_X} {T : jv_T} {n : Nat} {V : Nat → Nat → Int32} {L : Nat → Nat → Int64} {k z : Nat} {N K R : Nat} (hC : Ct V N K R) {j : Int32} {f : Int32} (hx : j < 0 ∨ nI R ≤ j) (hk : 1 ≤ k) (hz : 6 ≤ z) (hM : jv_M g X T) (hX : ∀ n', n ≤ n' → T (.inr "java/lang/IndexOutOfBoundsException") n' (SH sx) V L) : jv_J g X I_X4_heardAt 0 [some (jv_r g 0), some (.int j), some (.int f)] [] n (SH sx) V L k z := by
  obtain ⟨hN, hK, hR, hN2, hb, hK4, hR8⟩ := id hC
  refine j_aload_n_0 dX4_heardAt_0 ?_
  refine j_iload_n_1 dX4_heardAt_1 ?_
  exact X_X4_112 (n1 := 0) (sh1 := fun _ => (0, 0, fun _ => none)) (V1 := fun _ _ => 0) (L1 := fun _ _ => 0) rfl (by decide) dX4_heardAt_2 sk_0 (Nat.le_of_ble_eq_true rfl) (show 1 + 0 ≤ k from hk) (show 6 + 0 ≤ z from hz) (fun _ _ hM' hT' => b_needRumour hR (by omega) hx (Nat.le_refl 1) (Nat.le_refl 6) hM' hT') (fun n' hn' => j_out hM rfl (hX n' hn'))

set_option maxHeartbeats 4000000 in
set_option maxRecDepth 100000 in
theorem e_heardAt_7 {sx : Nat → jv_S} {g : jv_G} {X : jv_X} {T : jv_T} {n : Nat} {V : Nat → Nat → Int32} {L : Nat → Nat → Int64} {k z : Nat} {N K R : Nat} (hC : Ct V N K R) {j : Nat} (hj : (j < R)) {f : Int32} (hx : f < 0 ∨ nI N ≤ f) (hk : 1 ≤ k) (hz : 6 ≤ z) (hM : jv_M g X T) (hX : ∀ n', n ≤ n' → T (.inr "java/lang/IndexOutOfBoundsException") n' (SH sx) V L) : jv_J g X I_X4_heardAt 0 [some (jv_r g 0), some (.int (nI j)), some (.int f)] [] n (SH sx) V L k z := by
  obtain ⟨hN, hK, hR, hN2, hb, hK4, hR8⟩ := id hC
  refine j_aload_n_0 dX4_heardAt_0 ?_
  refine j_iload_n_1 dX4_heardAt_1 ?_
  refine C_X4_112 rfl (by decide) dX4_heardAt_2 sk_0 (Nat.le_of_ble_eq_true rfl) (Nat.le_of_eq (Nat.zero_add _)) (Nat.le_of_eq (Nat.zero_add _)) (fun _ _ hM' hT' => c_needRumour hR hj (by omega) hM' hT') ?_
  refine j_aload_n_0 dX4_heardAt_5 ?_
  refine j_iload_n_2 dX4_heardAt_6 ?_
  exact X_X4_49 (n1 := 0) (sh1 := fun _ => (0, 0, fun _ => none)) (V1 := fun _ _ => 0) (L1 := fun _ _ => 0) rfl (by decide) dX4_heardAt_7 sk_0 (Nat.le_of_ble_eq_true rfl) (show 1 + 0 ≤ k from hk) (show 6 + 0 ≤ z from hz) (fun _ _ hM' hT' => b_needFloor hN hb hx (Nat.le_refl 1) (Nat.le_refl 6) hM' hT') (fun n' hn' => j_out hM rfl (hX n' hn'))

set_option maxHeartbeats 4000000 in
set_option maxRecDepth 100000 in
theorem g_deniedAt {sx : Nat → jv_S} {g : jv_G} {X : jv_X} {T : jv_T} {n : Nat} {V : Nat → Nat → Int32} {L : Nat → Nat → Int64} {k z : Nat} {N K R : Nat} (hC : Ct V N K R) {j : Nat} (hj : (j < R)) {f : Nat} (hf : (f < N))  (hM : jv_M g X T) (hT : T (.inl (some (.int (V (43 + 10 * j + 3) f)))) n (SH sx) (V) L) : jv_J g X I_X4_deniedAt 0 [some (jv_r g 0), some (.int (nI j)), some (.int (nI f))] [] n (SH sx) V L k z := by
  obtain ⟨hN, hK, hR, hN2, hb, hK4, hR8⟩ := id hC
  refine j_aload_n_0 dX4_deniedAt_0 ?_
  refine j_iload_n_1 dX4_deniedAt_1 ?_
  refine C_X4_112 rfl (by decide) dX4_deniedAt_2 sk_0 (Nat.le_of_ble_eq_true rfl) (Nat.le_of_eq (Nat.zero_add _)) (Nat.le_of_eq (Nat.zero_add _)) (fun _ _ hM' hT' => c_needRumour hR hj (by omega) hM' hT') ?_
  refine j_aload_n_0 dX4_deniedAt_5 ?_
  refine j_iload_n_2 dX4_deniedAt_6 ?_
  refine C_X4_49 rfl (by decide) dX4_deniedAt_7 sk_0 (Nat.le_of_ble_eq_true rfl) (Nat.le_of_eq (Nat.zero_add _)) (Nat.le_of_eq (Nat.zero_add _)) (fun _ _ hM' hT' => c_needFloor hN hf hb hM' hT') ?_
  refine j_aload_n_0 dX4_deniedAt_10 ?_
  refine G_X4_25 rfl dX4_deniedAt_11 sk_0 sr_0_2 ?_
  refine j_iload_n_1 dX4_deniedAt_14 ?_
  refine jv_aald (t := 3) (fun _ => rfl) rfl (by decide) (by decide) dX4_deniedAt_15 sk_32 sn_32 (by omega) (by decide) (sr_sta (by omega)) ?_
  refine G_X4_147 rfl dX4_deniedAt_16 (sk_rum (isRum.of (by omega))) (sr_rum_4 (isRum.of (by omega))) ?_
  refine j_iload_n_2 dX4_deniedAt_19 ?_
  refine j_iald dX4_deniedAt_20 (sk_rua_3 (isRum.of (by omega))) (sn_rua_3 (isRum.of (by omega))) (by omega) (by decide) ?_
  exact j_iret hM dX4_deniedAt_21 rfl hT

set_option maxHeartbeats 4000000 in
set_option maxRecDepth 100000 in
theorem e_deniedAt_2 {sx : Nat → jv_S} {g : jv_G} {X : jv_X} {T : jv_T} {n : Nat} {V : Nat → Nat → Int32} {L : Nat → Nat → Int64} {k z : Nat} {N K R : Nat} (hC : Ct V N K R) {j : Int32} {f : Int32} (hx : j < 0 ∨ nI R ≤ j) (hk : 1 ≤ k) (hz : 6 ≤ z) (hM : jv_M g X T) (hX : ∀ n', n ≤ n' → T (.inr "java/lang/IndexOutOfBoundsException") n' (SH sx) V L) : jv_J g X I_X4_deniedAt 0 [some (jv_r g 0), some (.int j), some (.int f)] [] n (SH sx) V L k z := by
  obtain ⟨hN, hK, hR, hN2, hb, hK4, hR8⟩ := id hC
  refine j_aload_n_0 dX4_deniedAt_0 ?_
  refine j_iload_n_1 dX4_deniedAt_1 ?_
  exact X_X4_112 (n1 := 0) (sh1 := fun _ => (0, 0, fun _ => none)) (V1 := fun _ _ => 0) (L1 := fun _ _ => 0) rfl (by decide) dX4_deniedAt_2 sk_0 (Nat.le_of_ble_eq_true rfl) (show 1 + 0 ≤ k from hk) (show 6 + 0 ≤ z from hz) (fun _ _ hM' hT' => b_needRumour hR (by omega) hx (Nat.le_refl 1) (Nat.le_refl 6) hM' hT') (fun n' hn' => j_out hM rfl (hX n' hn'))

set_option maxHeartbeats 4000000 in
set_option maxRecDepth 100000 in
theorem e_deniedAt_7 {sx : Nat → jv_S} {g : jv_G} {X : jv_X} {T : jv_T} {n : Nat} {V : Nat → Nat → Int32} {L : Nat → Nat → Int64} {k z : Nat} {N K R : Nat} (hC : Ct V N K R) {j : Nat} (hj : (j < R)) {f : Int32} (hx : f < 0 ∨ nI N ≤ f) (hk : 1 ≤ k) (hz : 6 ≤ z) (hM : jv_M g X T) (hX : ∀ n', n ≤ n' → T (.inr "java/lang/IndexOutOfBoundsException") n' (SH sx) V L) : jv_J g X I_X4_deniedAt 0 [some (jv_r g 0), some (.int (nI j)), some (.int f)] [] n (SH sx) V L k z := by
  obtain ⟨hN, hK, hR, hN2, hb, hK4, hR8⟩ := id hC
  refine j_aload_n_0 dX4_deniedAt_0 ?_
  refine j_iload_n_1 dX4_deniedAt_1 ?_
  refine C_X4_112 rfl (by decide) dX4_deniedAt_2 sk_0 (Nat.le_of_ble_eq_true rfl) (Nat.le_of_eq (Nat.zero_add _)) (Nat.le_of_eq (Nat.zero_add _)) (fun _ _ hM' hT' => c_needRumour hR hj (by omega) hM' hT') ?_
  refine j_aload_n_0 dX4_deniedAt_5 ?_
  refine j_iload_n_2 dX4_deniedAt_6 ?_
  exact X_X4_49 (n1 := 0) (sh1 := fun _ => (0, 0, fun _ => none)) (V1 := fun _ _ => 0) (L1 := fun _ _ => 0) rfl (by decide) dX4_deniedAt_7 sk_0 (Nat.le_of_ble_eq_true rfl) (show 1 + 0 ≤ k from hk) (show 6 + 0 ≤ z from hz) (fun _ _ hM' hT' => b_needFloor hN hb hx (Nat.le_refl 1) (Nat.le_refl 6) hM' hT') (fun n' hn' => j_out hM rfl (hX n' hn'))

set_option maxHeartbeats 4000000 in
set_option maxRecDepth 100000 in
theorem g_pipesTo {sx : Nat → jv_S} {g : jv_G} {X : jv_X} {T : jv_T} {n : Nat} {V : Nat → Nat → Int32} {L : Nat → Nat → Int64} {k z : Nat} {N K R : Nat} (hC : Ct V N K R) {j : Nat} (hj : (j < R)) {f : Nat} (hf : (f < N))  (hM : jv_M g X T) (hT : T (.inl (some (.int (V (43 + 10 * j + 4) f)))) n (SH sx) (V) L) : jv_J g X I_X4_pipesTo 0 [some (jv_r g 0), some (.int (nI j)), some (.int (nI f))] [] n (SH sx) V L k z := by
  obtain ⟨hN, hK, hR, hN2, hb, hK4, hR8⟩ := id hC
  refine j_aload_n_0 dX4_pipesTo_0 ?_
  refine j_iload_n_1 dX4_pipesTo_1 ?_
  refine C_X4_112 rfl (by decide) dX4_pipesTo_2 sk_0 (Nat.le_of_ble_eq_true rfl) (Nat.le_of_eq (Nat.zero_add _)) (Nat.le_of_eq (Nat.zero_add _)) (fun _ _ hM' hT' => c_needRumour hR hj (by omega) hM' hT') ?_
  refine j_aload_n_0 dX4_pipesTo_5 ?_
  refine j_iload_n_2 dX4_pipesTo_6 ?_
  refine C_X4_49 rfl (by decide) dX4_pipesTo_7 sk_0 (Nat.le_of_ble_eq_true rfl) (Nat.le_of_eq (Nat.zero_add _)) (Nat.le_of_eq (Nat.zero_add _)) (fun _ _ hM' hT' => c_needFloor hN hf hb hM' hT') ?_
  refine j_aload_n_0 dX4_pipesTo_10 ?_
  refine G_X4_25 rfl dX4_pipesTo_11 sk_0 sr_0_2 ?_
  refine j_iload_n_1 dX4_pipesTo_14 ?_
  refine jv_aald (t := 3) (fun _ => rfl) rfl (by decide) (by decide) dX4_pipesTo_15 sk_32 sn_32 (by omega) (by decide) (sr_sta (by omega)) ?_
  refine G_X4_150 rfl dX4_pipesTo_16 (sk_rum (isRum.of (by omega))) (sr_rum_5 (isRum.of (by omega))) ?_
  refine j_iload_n_2 dX4_pipesTo_19 ?_
  refine j_iald dX4_pipesTo_20 (sk_rua_4 (isRum.of (by omega))) (sn_rua_4 (isRum.of (by omega))) (by omega) (by decide) ?_
  exact j_iret hM dX4_pipesTo_21 rfl hT

set_option maxHeartbeats 4000000 in
set_option maxRecDepth 100000 in
theorem e_pipesTo_2 {sx : Nat → jv_S} {g : jv_G} {X : jv_X} {T : jv_T} {n : Nat} {V : Nat → Nat → Int32} {L : Nat → Nat → Int64} {k z : Nat} {N K R : Nat} (hC : Ct V N K R) {j : Int32} {f : Int32} (hx : j < 0 ∨ nI R ≤ j) (hk : 1 ≤ k) (hz : 6 ≤ z) (hM : jv_M g X T) (hX : ∀ n', n ≤ n' → T (.inr "java/lang/IndexOutOfBoundsException") n' (SH sx) V L) : jv_J g X I_X4_pipesTo 0 [some (jv_r g 0), some (.int j), some (.int f)] [] n (SH sx) V L k z := by
  obtain ⟨hN, hK, hR, hN2, hb, hK4, hR8⟩ := id hC
  refine j_aload_n_0 dX4_pipesTo_0 ?_
  refine j_iload_n_1 dX4_pipesTo_1 ?_
  exact X_X4_112 (n1 := 0) (sh1 := fun _ => (0, 0, fun _ => none)) (V1 := fun _ _ => 0) (L1 := fun _ _ => 0) rfl (by decide) dX4_pipesTo_2 sk_0 (Nat.le_of_ble_eq_true rfl) (show 1 + 0 ≤ k from hk) (show 6 + 0 ≤ z from hz) (fun _ _ hM' hT' => b_needRumour hR (by omega) hx (Nat.le_refl 1) (Nat.le_refl 6) hM' hT') (fun n' hn' => j_out hM rfl (hX n' hn'))

set_option maxHeartbeats 4000000 in
set_option maxRecDepth 100000 in
theorem e_pipesTo_7 {sx : Nat → jv_S} {g : jv_G} {X : jv_X} {T : jv_T} {n : Nat} {V : Nat → Nat → Int32} {L : Nat → Nat → Int64} {k z : Nat} {N K R : Nat} (hC : Ct V N K R) {j : Nat} (hj : (j < R)) {f : Int32} (hx : f < 0 ∨ nI N ≤ f) (hk : 1 ≤ k) (hz : 6 ≤ z) (hM : jv_M g X T) (hX : ∀ n', n ≤ n' → T (.inr "java/lang/IndexOutOfBoundsException") n' (SH sx) V L) : jv_J g X I_X4_pipesTo 0 [some (jv_r g 0), some (.int (nI j)), some (.int f)] [] n (SH sx) V L k z := by
  obtain ⟨hN, hK, hR, hN2, hb, hK4, hR8⟩ := id hC
  refine j_aload_n_0 dX4_pipesTo_0 ?_
  refine j_iload_n_1 dX4_pipesTo_1 ?_
  refine C_X4_112 rfl (by decide) dX4_pipesTo_2 sk_0 (Nat.le_of_ble_eq_true rfl) (Nat.le_of_eq (Nat.zero_add _)) (Nat.le_of_eq (Nat.zero_add _)) (fun _ _ hM' hT' => c_needRumour hR hj (by omega) hM' hT') ?_
  refine j_aload_n_0 dX4_pipesTo_5 ?_
  refine j_iload_n_2 dX4_pipesTo_6 ?_
  exact X_X4_49 (n1 := 0) (sh1 := fun _ => (0, 0, fun _ => none)) (V1 := fun _ _ => 0) (L1 := fun _ _ => 0) rfl (by decide) dX4_pipesTo_7 sk_0 (Nat.le_of_ble_eq_true rfl) (show 1 + 0 ≤ k from hk) (show 6 + 0 ≤ z from hz) (fun _ _ hM' hT' => b_needFloor hN hb hx (Nat.le_refl 1) (Nat.le_refl 6) hM' hT') (fun n' hn' => j_out hM rfl (hX n' hn'))

set_option maxHeartbeats 4000000 in
set_option maxRecDepth 100000 in
theorem g_believers {sx : Nat → jv_S} {g : jv_G} {X : jv_X} {T : jv_T} {n : Nat} {V : Nat → Nat → Int32} {L : Nat → Nat → Int64} {k z : Nat} {N K R : Nat} (hC : Ct V N K R) {j : Nat} (hj : (j < R))  (hM : jv_M g X T) (hT : T (.inl (some (.int (hbL V (43 + 10 * j) N 0 (nI 0))))) n (SH sx) (V) L) : jv_J g X I_X4_believers 0 [some (jv_r g 0), some (.int (nI j))] [] n (SH sx) V L k z := by
  obtain ⟨hN, hK, hR, hN2, hb, hK4, hR8⟩ := id hC
  refine j_aload_n_0 dX4_believers_0 ?_
  refine j_iload_n_1 dX4_believers_1 ?_
  refine C_X4_112 rfl (by decide) dX4_believers_2 sk_0 (Nat.le_of_ble_eq_true rfl) (Nat.le_of_eq (Nat.zero_add _)) (Nat.le_of_eq (Nat.zero_add _)) (fun _ _ hM' hT' => c_needRumour hR hj (by omega) hM' hT') ?_
  refine j_aload_n_0 dX4_believers_5 ?_
  refine G_X4_25 rfl dX4_believers_6 sk_0 sr_0_2 ?_
  refine j_iload_n_1 dX4_believers_9 ?_
  refine jv_aald (t := 3) (fun _ => rfl) rfl (by decide) (by decide) dX4_believers_10 sk_32 sn_32 (by omega) (by decide) (sr_sta (by omega)) ?_
  refine j_aload_n_0 dX4_believers_11 ?_
  refine G_X4_10 rfl dX4_believers_12 sk_0 sr_0_0 ?_
  refine C_X4_153 rfl (by decide) dX4_believers_15 (sk_rum (isRum.of (by omega))) (Nat.le_of_ble_eq_true rfl) (Nat.le_of_eq (Nat.zero_add _)) (Nat.le_of_eq (Nat.zero_add _)) (fun _ _ hM' hT' => c_headsThatBelieve (isRum.of (by omega)) hN hb hM' hT') ?_
  exact j_iret hM dX4_believers_18 rfl hT

set_option maxHeartbeats 4000000 in
set_option maxRecDepth 100000 in
theorem e_believers_2 {sx : Nat → jv_S} {g : jv_G} {X : jv_X} {T : jv_T} {n : Nat} {V : Nat → Nat → Int32} {L : Nat → Nat → Int64} {k z : Nat} {N K R : Nat} (hC : Ct V N K R) {j : Int32} (hx : j < 0 ∨ nI R ≤ j) (hk : 1 ≤ k) (hz : 6 ≤ z) (hM : jv_M g X T) (hX : ∀ n', n ≤ n' → T (.inr "java/lang/IndexOutOfBoundsException") n' (SH sx) V L) : jv_J g X I_X4_believers 0 [some (jv_r g 0), some (.int j)] [] n (SH sx) V L k z := by
  obtain ⟨hN, hK, hR, hN2, hb, hK4, hR8⟩ := id hC
  refine j_aload_n_0 dX4_believers_0 ?_
  refine j_iload_n_1 dX4_believers_1 ?_
  exact X_X4_112 (n1 := 0) (sh1 := fun _ => (0, 0, fun _ => none)) (V1 := fun _ _ => 0) (L1 := fun _ _ => 0) rfl (by decide) dX4_believers_2 sk_0 (Nat.le_of_ble_eq_true rfl) (show 1 + 0 ≤ k from hk) (show 6 + 0 ≤ z from hz) (fun _ _ hM' hT' => b_needRumour hR (by omega) hx (Nat.le_refl 1) (Nat.le_refl 6) hM' hT') (fun n' hn' => j_out hM rfl (hX n' hn'))

def neighboursL (V : Nat → Nat → Int32) (f : Nat) : Nat → Nat → Nat → Nat
  | 0, _, a => a
  | m + 1, i, a => neighboursL V f m (i + 1) (if V (8 + f) i = -1 then a else a + 1)

set_option maxHeartbeats 4000000 in
set_option maxRecDepth 100000 in
theorem c_neighbours_loop {sx : Nat → jv_S} {g : jv_G} {X : jv_X} {T : jv_T} {n : Nat} {V : Nat → Nat → Int32} {L : Nat → Nat → Int64} {k z : Nat} {N K R : Nat} (hC : Ct V N K R) {f : Nat} (hf : f < N) (hM : jv_M g X T) : ∀ (m : Nat) (i : Nat) (a : Nat), i ≤ N → N + 1 ≤ i + m → T (.inl (some (.int (nI (neighboursL V f (N - i) i a))))) n (SH sx) (V) L → jv_J g X I_X4_neighbours 9 [some (jv_r g 0), some (.int (nI f)), some (.int (nI a)), some (.int (nI i))] [] n (SH sx) V L k z := by
  intro m
  induction m with
  | zero => intro i a hi him hT; omega
  | succ m ih =>
  intro i a hi him hT
  obtain ⟨hN, hK, hR, hN2, hb, hK4, hR8⟩ := id hC
  refine j_iload_n_3 dX4_neighbours_9 ?_
  refine j_aload_n_0 dX4_neighbours_10 ?_
  refine G_X4_10 rfl dX4_neighbours_11 sk_0 sr_0_0 ?_
  refine G_X4_128 rfl dX4_neighbours_14 sk_1 ?_
  refine j_top (y := nI N) hN ?_
  refine j_ic_geN (by omega) (by omega) (tgt := 44) dX4_neighbours_17 (by decide) (fun h17 => ?_) (fun h17 => ?_)
  · refine j_iload_n_2 dX4_neighbours_44 ?_
    exact j_iret hM dX4_neighbours_45 rfl (by rw [show N - i = 0 by omega] at hT; exact hT)
  · refine j_aload_n_0 dX4_neighbours_20 ?_
    refine G_X4_10 rfl dX4_neighbours_21 sk_0 sr_0_0 ?_
    refine G_X4_134 rfl dX4_neighbours_24 sk_1 sr_1_7 ?_
    refine j_iload_n_1 dX4_neighbours_27 ?_
    refine jv_aald (t := 5) (fun _ => rfl) rfl (by decide) (by decide) dX4_neighbours_28 sk_7 sn_7 (by omega) (by decide) (sr_row (by omega)) ?_
    refine j_iload_n_3 dX4_neighbours_29 ?_
    refine j_iald dX4_neighbours_30 (sk_row (by omega)) (sn_row (by omega)) (by omega) (by decide) ?_
    refine j_iconst (v := -1) dX4_neighbours_31 nc_iconst_m1 ?_
    refine j_ic_eq (tgt := 38) dX4_neighbours_32 (by decide) (fun h32 => ?_) (fun h32 => ?_)
    · refine j_inc1_3 rfl (by decide) dX4_neighbours_38 ?_
      refine j_goto (tgt := 9) dX4_neighbours_41 (by decide) ?_
      refine ih (i + 1) _ (by omega) (by omega) ?_
      rw [show N - i = (N - (i + 1)) + 1 by omega] at hT
      unfold neighboursL at hT
      rw [if_pos h32] at hT
      exact hT
    · refine j_inc1_2 rfl (by decide) dX4_neighbours_35 ?_
      refine j_inc1_3 rfl (by decide) dX4_neighbours_38 ?_
      refine j_goto (tgt := 9) dX4_neighbours_41 (by decide) ?_
      refine ih (i + 1) _ (by omega) (by omega) ?_
      rw [show N - i = (N - (i + 1)) + 1 by omega] at hT
      unfold neighboursL at hT
      rw [if_neg h32] at hT
      exact hT

set_option maxHeartbeats 4000000 in
set_option maxRecDepth 100000 in
theorem g_neighbours {sx : Nat → jv_S} {g : jv_G} {X : jv_X} {T : jv_T} {n : Nat} {V : Nat → Nat → Int32} {L : Nat → Nat → Int64} {k z : Nat} {N K R : Nat} (hC : Ct V N K R) {f : Nat} (hf : (f < N))  (hM : jv_M g X T) (hT : T (.inl (some (.int (nI (neighboursL V f N 0 0))))) n (SH sx) (V) L) : jv_J g X I_X4_neighbours 0 [some (jv_r g 0), some (.int (nI f)), none, none] [] n (SH sx) V L k z := by
  obtain ⟨hN, hK, hR, hN2, hb, hK4, hR8⟩ := id hC
  refine j_aload_n_0 dX4_neighbours_0 ?_
  refine j_iload_n_1 dX4_neighbours_1 ?_
  refine C_X4_49 rfl (by decide) dX4_neighbours_2 sk_0 (Nat.le_of_ble_eq_true rfl) (Nat.le_of_eq (Nat.zero_add _)) (Nat.le_of_eq (Nat.zero_add _)) (fun _ _ hM' hT' => c_needFloor hN hf hb hM' hT') ?_
  refine j_iconst (v := nI 0) dX4_neighbours_5 nc_iconst_0 ?_
  refine j_istore_n_2 rfl (by decide) dX4_neighbours_6 ?_
  refine j_iconst (v := nI 0) dX4_neighbours_7 nc_iconst_0 ?_
  refine j_istore_n_3 rfl (by decide) dX4_neighbours_8 ?_
  exact c_neighbours_loop hC hf hM (N + 1) 0 0 (by omega) (by omega) hT

set_option maxHeartbeats 4000000 in
set_option maxRecDepth 100000 in
theorem e_neighbours_2 {sx : Nat → jv_S} {g : jv_G} {X : jv_X} {T : jv_T} {n : Nat} {V : Nat → Nat → Int32} {L : Nat → Nat → Int64} {k z : Nat} {N K R : Nat} (hC : Ct V N K R) {f : Int32} (hx : f < 0 ∨ nI N ≤ f) (hk : 1 ≤ k) (hz : 6 ≤ z) (hM : jv_M g X T) (hX : ∀ n', n ≤ n' → T (.inr "java/lang/IndexOutOfBoundsException") n' (SH sx) V L) : jv_J g X I_X4_neighbours 0 [some (jv_r g 0), some (.int f), none, none] [] n (SH sx) V L k z := by
  obtain ⟨hN, hK, hR, hN2, hb, hK4, hR8⟩ := id hC
  refine j_aload_n_0 dX4_neighbours_0 ?_
  refine j_iload_n_1 dX4_neighbours_1 ?_
  exact X_X4_49 (n1 := 0) (sh1 := fun _ => (0, 0, fun _ => none)) (V1 := fun _ _ => 0) (L1 := fun _ _ => 0) rfl (by decide) dX4_neighbours_2 sk_0 (Nat.le_of_ble_eq_true rfl) (show 1 + 0 ≤ k from hk) (show 6 + 0 ≤ z from hz) (fun _ _ hM' hT' => b_needFloor hN hb hx (Nat.le_refl 1) (Nat.le_refl 6) hM' hT') (fun n' hn' => j_out hM rfl (hX n' hn'))

def reachedL (V : Nat → Nat → Int32) (j : Nat) : Nat → Nat → Nat → Nat
  | 0, _, a => a
  | m + 1, i, a => reachedL V j m (i + 1) (if V (43 + 10 * j + 2) i = -1 then a else a + 1)

set_option maxHeartbeats 4000000 in
set_option maxRecDepth 100000 in
theorem c_reached_loop {sx : Nat → jv_S} {g : jv_G} {X : jv_X} {T : jv_T} {n : Nat} {V : Nat → Nat → Int32} {L : Nat → Nat → Int64} {k z : Nat} {N K R : Nat} (hC : Ct V N K R) {j : Nat} (hj : j < R) (hM : jv_M g X T) : ∀ (m : Nat) (i : Nat) (a : Nat), i ≤ N → N + 1 ≤ i + m → T (.inl (some (.int (nI (reachedL V j (N - i) i a))))) n (SH sx) (V) L → jv_J g X I_X4_reached 9 [some (jv_r g 0), some (.int (nI j)), some (.int (nI a)), some (.int (nI i))] [] n (SH sx) V L k z := by
  intro m
  induction m with
  | zero => intro i a hi him hT; omega
  | succ m ih =>
  intro i a hi him hT
  obtain ⟨hN, hK, hR, hN2, hb, hK4, hR8⟩ := id hC
  refine j_iload_n_3 dX4_reached_9 ?_
  refine j_aload_n_0 dX4_reached_10 ?_
  refine G_X4_10 rfl dX4_reached_11 sk_0 sr_0_0 ?_
  refine G_X4_128 rfl dX4_reached_14 sk_1 ?_
  refine j_top (y := nI N) hN ?_
  refine j_ic_geN (by omega) (by omega) (tgt := 44) dX4_reached_17 (by decide) (fun h17 => ?_) (fun h17 => ?_)
  · refine j_iload_n_2 dX4_reached_44 ?_
    exact j_iret hM dX4_reached_45 rfl (by rw [show N - i = 0 by omega] at hT; exact hT)
  · refine j_aload_n_0 dX4_reached_20 ?_
    refine G_X4_25 rfl dX4_reached_21 sk_0 sr_0_2 ?_
    refine j_iload_n_1 dX4_reached_24 ?_
    refine jv_aald (t := 3) (fun _ => rfl) rfl (by decide) (by decide) dX4_reached_25 sk_32 sn_32 (by omega) (by decide) (sr_sta (by omega)) ?_
    refine G_X4_144 rfl dX4_reached_26 (sk_rum (isRum.of (by omega))) (sr_rum_3 (isRum.of (by omega))) ?_
    refine j_iload_n_3 dX4_reached_29 ?_
    refine j_iald dX4_reached_30 (sk_rua_2 (isRum.of (by omega))) (sn_rua_2 (isRum.of (by omega))) (by omega) (by decide) ?_
    refine j_iconst (v := -1) dX4_reached_31 nc_iconst_m1 ?_
    refine j_ic_eq (tgt := 38) dX4_reached_32 (by decide) (fun h32 => ?_) (fun h32 => ?_)
    · refine j_inc1_3 rfl (by decide) dX4_reached_38 ?_
      refine j_goto (tgt := 9) dX4_reached_41 (by decide) ?_
      refine ih (i + 1) _ (by omega) (by omega) ?_
      rw [show N - i = (N - (i + 1)) + 1 by omega] at hT
      unfold reachedL at hT
      rw [if_pos h32] at hT
      exact hT
    · refine j_inc1_2 rfl (by decide) dX4_reached_35 ?_
      refine j_inc1_3 rfl (by decide) dX4_reached_38 ?_
      refine j_goto (tgt := 9) dX4_reached_41 (by decide) ?_
      refine ih (i + 1) _ (by omega) (by omega) ?_
      rw [show N - i = (N - (i + 1)) + 1 by omega] at hT
      unfold reachedL at hT
      rw [if_neg h32] at hT
      exact hT

set_option maxHeartbeats 4000000 in
set_option maxRecDepth 100000 in
theorem g_reached {sx : Nat → jv_S} {g : jv_G} {X : jv_X} {T : jv_T} {n : Nat} {V : Nat → Nat → Int32} {L : Nat → Nat → Int64} {k z : Nat} {N K R : Nat} (hC : Ct V N K R) {j : Nat} (hj : (j < R))  (hM : jv_M g X T) (hT : T (.inl (some (.int (nI (reachedL V j N 0 0))))) n (SH sx) (V) L) : jv_J g X I_X4_reached 0 [some (jv_r g 0), some (.int (nI j)), none, none] [] n (SH sx) V L k z := by
  obtain ⟨hN, hK, hR, hN2, hb, hK4, hR8⟩ := id hC
  refine j_aload_n_0 dX4_reached_0 ?_
  refine j_iload_n_1 dX4_reached_1 ?_
  refine C_X4_112 rfl (by decide) dX4_reached_2 sk_0 (Nat.le_of_ble_eq_true rfl) (Nat.le_of_eq (Nat.zero_add _)) (Nat.le_of_eq (Nat.zero_add _)) (fun _ _ hM' hT' => c_needRumour hR hj (by omega) hM' hT') ?_
  refine j_iconst (v := nI 0) dX4_reached_5 nc_iconst_0 ?_
  refine j_istore_n_2 rfl (by decide) dX4_reached_6 ?_
  refine j_iconst (v := nI 0) dX4_reached_7 nc_iconst_0 ?_
  refine j_istore_n_3 rfl (by decide) dX4_reached_8 ?_
  exact c_reached_loop hC hj hM (N + 1) 0 0 (by omega) (by omega) hT

set_option maxHeartbeats 4000000 in
set_option maxRecDepth 100000 in
theorem e_reached_2 {sx : Nat → jv_S} {g : jv_G} {X : jv_X} {T : jv_T} {n : Nat} {V : Nat → Nat → Int32} {L : Nat → Nat → Int64} {k z : Nat} {N K R : Nat} (hC : Ct V N K R) {j : Int32} (hx : j < 0 ∨ nI R ≤ j) (hk : 1 ≤ k) (hz : 6 ≤ z) (hM : jv_M g X T) (hX : ∀ n', n ≤ n' → T (.inr "java/lang/IndexOutOfBoundsException") n' (SH sx) V L) : jv_J g X I_X4_reached 0 [some (jv_r g 0), some (.int j), none, none] [] n (SH sx) V L k z := by
  obtain ⟨hN, hK, hR, hN2, hb, hK4, hR8⟩ := id hC
  refine j_aload_n_0 dX4_reached_0 ?_
  refine j_iload_n_1 dX4_reached_1 ?_
  exact X_X4_112 (n1 := 0) (sh1 := fun _ => (0, 0, fun _ => none)) (V1 := fun _ _ => 0) (L1 := fun _ _ => 0) rfl (by decide) dX4_reached_2 sk_0 (Nat.le_of_ble_eq_true rfl) (show 1 + 0 ≤ k from hk) (show 6 + 0 ≤ z from hz) (fun _ _ hM' hT' => b_needRumour hR (by omega) hx (Nat.le_refl 1) (Nat.le_refl 6) hM' hT') (fun n' hn' => j_out hM rfl (hX n' hn'))

def underWayL (V : Nat → Nat → Int32) (j : Nat) : Nat → Nat → Nat → Nat
  | 0, _, a => a
  | m + 1, i, a => underWayL V j m (i + 1) (if uwB V (43 + 10 * j) i = false then a else a + 1)

set_option maxHeartbeats 4000000 in
set_option maxRecDepth 100000 in
theorem c_underWay_loop {sx : Nat → jv_S} {g : jv_G} {X : jv_X} {T : jv_T} {n : Nat} {V : Nat → Nat → Int32} {L : Nat → Nat → Int64} {k z : Nat} {N K R : Nat} (hC : Ct V N K R) {j : Nat} (hj : j < R) (hM : jv_M g X T) : ∀ (m : Nat) (i : Nat) (a : Nat), i ≤ N → N + 1 ≤ i + m → T (.inl (some (.int (nI (underWayL V j (N - i) i a))))) n (SH sx) (V) L → jv_J g X I_X4_underWay 9 [some (jv_r g 0), some (.int (nI j)), some (.int (nI a)), some (.int (nI i))] [] n (SH sx) V L k z := by
  intro m
  induction m with
  | zero => intro i a hi him hT; omega
  | succ m ih =>
  intro i a hi him hT
  obtain ⟨hN, hK, hR, hN2, hb, hK4, hR8⟩ := id hC
  refine j_iload_n_3 dX4_underWay_9 ?_
  refine j_aload_n_0 dX4_underWay_10 ?_
  refine G_X4_10 rfl dX4_underWay_11 sk_0 sr_0_0 ?_
  refine G_X4_128 rfl dX4_underWay_14 sk_1 ?_
  refine j_top (y := nI N) hN ?_
  refine j_ic_geN (by omega) (by omega) (tgt := 42) dX4_underWay_17 (by decide) (fun h17 => ?_) (fun h17 => ?_)
  · refine j_iload_n_2 dX4_underWay_42 ?_
    exact j_iret hM dX4_underWay_43 rfl (by rw [show N - i = 0 by omega] at hT; exact hT)
  · refine j_aload_n_0 dX4_underWay_20 ?_
    refine G_X4_25 rfl dX4_underWay_21 sk_0 sr_0_2 ?_
    refine j_iload_n_1 dX4_underWay_24 ?_
    refine jv_aald (t := 3) (fun _ => rfl) rfl (by decide) (by decide) dX4_underWay_25 sk_32 sn_32 (by omega) (by decide) (sr_sta (by omega)) ?_
    refine j_iload_n_3 dX4_underWay_26 ?_
    refine C_X4_157 rfl (by decide) dX4_underWay_27 (sk_rum (isRum.of (by omega))) (Nat.le_of_ble_eq_true rfl) (Nat.le_of_eq (Nat.zero_add _)) (Nat.le_of_eq (Nat.zero_add _)) (fun _ _ hM' hT' => c_isUnderWayTo (isRum.of (by omega)) (by omega) hM' hT') ?_
    refine j_if_eq (tgt := 36) dX4_underWay_30 (by decide) (fun h30 => ?_) (fun h30 => ?_)
    · refine j_inc1_3 rfl (by decide) dX4_underWay_36 ?_
      refine j_goto (tgt := 9) dX4_underWay_39 (by decide) ?_
      refine ih (i + 1) _ (by omega) (by omega) ?_
      rw [show N - i = (N - (i + 1)) + 1 by omega] at hT
      unfold underWayL at hT
      rw [if_pos (bz_f h30)] at hT
      exact hT
    · refine j_inc1_2 rfl (by decide) dX4_underWay_33 ?_
      refine j_inc1_3 rfl (by decide) dX4_underWay_36 ?_
      refine j_goto (tgt := 9) dX4_underWay_39 (by decide) ?_
      refine ih (i + 1) _ (by omega) (by omega) ?_
      rw [show N - i = (N - (i + 1)) + 1 by omega] at hT
      unfold underWayL at hT
      rw [if_neg (by rw [bz_t h30]; decide)] at hT
      exact hT

set_option maxHeartbeats 4000000 in
set_option maxRecDepth 100000 in
theorem g_underWay {sx : Nat → jv_S} {g : jv_G} {X : jv_X} {T : jv_T} {n : Nat} {V : Nat → Nat → Int32} {L : Nat → Nat → Int64} {k z : Nat} {N K R : Nat} (hC : Ct V N K R) {j : Nat} (hj : (j < R))  (hM : jv_M g X T) (hT : T (.inl (some (.int (nI (underWayL V j N 0 0))))) n (SH sx) (V) L) : jv_J g X I_X4_underWay 0 [some (jv_r g 0), some (.int (nI j)), none, none] [] n (SH sx) V L k z := by
  obtain ⟨hN, hK, hR, hN2, hb, hK4, hR8⟩ := id hC
  refine j_aload_n_0 dX4_underWay_0 ?_
  refine j_iload_n_1 dX4_underWay_1 ?_
  refine C_X4_112 rfl (by decide) dX4_underWay_2 sk_0 (Nat.le_of_ble_eq_true rfl) (Nat.le_of_eq (Nat.zero_add _)) (Nat.le_of_eq (Nat.zero_add _)) (fun _ _ hM' hT' => c_needRumour hR hj (by omega) hM' hT') ?_
  refine j_iconst (v := nI 0) dX4_underWay_5 nc_iconst_0 ?_
  refine j_istore_n_2 rfl (by decide) dX4_underWay_6 ?_
  refine j_iconst (v := nI 0) dX4_underWay_7 nc_iconst_0 ?_
  refine j_istore_n_3 rfl (by decide) dX4_underWay_8 ?_
  exact c_underWay_loop hC hj hM (N + 1) 0 0 (by omega) (by omega) hT

set_option maxHeartbeats 4000000 in
set_option maxRecDepth 100000 in
theorem e_underWay_2 {sx : Nat → jv_S} {g : jv_G} {X : jv_X} {T : jv_T} {n : Nat} {V : Nat → Nat → Int32} {L : Nat → Nat → Int64} {k z : Nat} {N K R : Nat} (hC : Ct V N K R) {j : Int32} (hx : j < 0 ∨ nI R ≤ j) (hk : 1 ≤ k) (hz : 6 ≤ z) (hM : jv_M g X T) (hX : ∀ n', n ≤ n' → T (.inr "java/lang/IndexOutOfBoundsException") n' (SH sx) V L) : jv_J g X I_X4_underWay 0 [some (jv_r g 0), some (.int j), none, none] [] n (SH sx) V L k z := by
  obtain ⟨hN, hK, hR, hN2, hb, hK4, hR8⟩ := id hC
  refine j_aload_n_0 dX4_underWay_0 ?_
  refine j_iload_n_1 dX4_underWay_1 ?_
  exact X_X4_112 (n1 := 0) (sh1 := fun _ => (0, 0, fun _ => none)) (V1 := fun _ _ => 0) (L1 := fun _ _ => 0) rfl (by decide) dX4_underWay_2 sk_0 (Nat.le_of_ble_eq_true rfl) (show 1 + 0 ≤ k from hk) (show 6 + 0 ≤ z from hz) (fun _ _ hM' hT' => b_needRumour hR (by omega) hx (Nat.le_refl 1) (Nat.le_refl 6) hM' hT') (fun n' hn' => j_out hM rfl (hX n' hn'))

set_option maxHeartbeats 4000000 in
set_option maxRecDepth 100000 in
theorem g_quickest {sx : Nat → jv_S} {g : jv_G} {X : jv_X} {T : jv_T} {n : Nat} {V : Nat → Nat → Int32} {L : Nat → Nat → Int64} {k z : Nat} {N K R : Nat} (hC : Ct V N K R) {f : Nat} (hf : (f < N)) {t : Nat} (ht : (t < N))  (hM : jv_M g X T) (hT : T (.inl (some (.int (fndC V N f 29 t)))) n (SH sx) (fndC V N f) L) : jv_J g X I_X4_quickest 0 [some (jv_r g 0), some (.int (nI f)), some (.int (nI t))] [] n (SH sx) V L k z := by
  obtain ⟨hN, hK, hR, hN2, hb, hK4, hR8⟩ := id hC
  refine j_aload_n_0 dX4_quickest_0 ?_
  refine j_iload_n_1 dX4_quickest_1 ?_
  refine C_X4_49 rfl (by decide) dX4_quickest_2 sk_0 (Nat.le_of_ble_eq_true rfl) (Nat.le_of_eq (Nat.zero_add _)) (Nat.le_of_eq (Nat.zero_add _)) (fun _ _ hM' hT' => c_needFloor hN hf hb hM' hT') ?_
  refine j_aload_n_0 dX4_quickest_5 ?_
  refine j_iload_n_2 dX4_quickest_6 ?_
  refine C_X4_49 rfl (by decide) dX4_quickest_7 sk_0 (Nat.le_of_ble_eq_true rfl) (Nat.le_of_eq (Nat.zero_add _)) (Nat.le_of_eq (Nat.zero_add _)) (fun _ _ hM' hT' => c_needFloor hN ht hb hM' hT') ?_
  refine j_aload_n_0 dX4_quickest_10 ?_
  refine G_X4_19 rfl dX4_quickest_11 sk_0 sr_0_1 ?_
  refine j_aload_n_0 dX4_quickest_14 ?_
  refine G_X4_10 rfl dX4_quickest_15 sk_0 sr_0_0 ?_
  refine j_iload_n_1 dX4_quickest_18 ?_
  refine C_X4_161 rfl (by decide) dX4_quickest_19 sk_28 (Nat.le_of_ble_eq_true rfl) (Nat.le_of_eq (Nat.zero_add _)) (Nat.le_of_eq (Nat.zero_add _)) (fun _ _ hM' hT' => c_findFrom hN hb hf hM' hT') ?_
  refine j_aload_n_0 dX4_quickest_22 ?_
  refine G_X4_19 rfl dX4_quickest_23 sk_0 sr_0_1 ?_
  refine G_X4_165 rfl dX4_quickest_26 sk_28 sr_28_0 ?_
  refine j_iload_n_2 dX4_quickest_29 ?_
  refine j_iald dX4_quickest_30 sk_29 sn_29 (by omega) (by decide) ?_
  exact j_iret hM dX4_quickest_31 rfl hT

set_option maxHeartbeats 4000000 in
set_option maxRecDepth 100000 in
theorem e_quickest_2 {sx : Nat → jv_S} {g : jv_G} {X : jv_X} {T : jv_T} {n : Nat} {V : Nat → Nat → Int32} {L : Nat → Nat → Int64} {k z : Nat} {N K R : Nat} (hC : Ct V N K R) {f : Int32} {t : Int32} (hx : f < 0 ∨ nI N ≤ f) (hk : 1 ≤ k) (hz : 6 ≤ z) (hM : jv_M g X T) (hX : ∀ n', n ≤ n' → T (.inr "java/lang/IndexOutOfBoundsException") n' (SH sx) V L) : jv_J g X I_X4_quickest 0 [some (jv_r g 0), some (.int f), some (.int t)] [] n (SH sx) V L k z := by
  obtain ⟨hN, hK, hR, hN2, hb, hK4, hR8⟩ := id hC
  refine j_aload_n_0 dX4_quickest_0 ?_
  refine j_iload_n_1 dX4_quickest_1 ?_
  exact X_X4_49 (n1 := 0) (sh1 := fun _ => (0, 0, fun _ => none)) (V1 := fun _ _ => 0) (L1 := fun _ _ => 0) rfl (by decide) dX4_quickest_2 sk_0 (Nat.le_of_ble_eq_true rfl) (show 1 + 0 ≤ k from hk) (show 6 + 0 ≤ z from hz) (fun _ _ hM' hT' => b_needFloor hN hb hx (Nat.le_refl 1) (Nat.le_refl 6) hM' hT') (fun n' hn' => j_out hM rfl (hX n' hn'))

set_option maxHeartbeats 4000000 in
set_option maxRecDepth 100000 in
theorem e_quickest_7 {sx : Nat → jv_S} {g : jv_G} {X : jv_X} {T : jv_T} {n : Nat} {V : Nat → Nat → Int32} {L : Nat → Nat → Int64} {k z : Nat} {N K R : Nat} (hC : Ct V N K R) {f : Nat} (hf : (f < N)) {t : Int32} (hx : t < 0 ∨ nI N ≤ t) (hk : 1 ≤ k) (hz : 6 ≤ z) (hM : jv_M g X T) (hX : ∀ n', n ≤ n' → T (.inr "java/lang/IndexOutOfBoundsException") n' (SH sx) V L) : jv_J g X I_X4_quickest 0 [some (jv_r g 0), some (.int (nI f)), some (.int t)] [] n (SH sx) V L k z := by
  obtain ⟨hN, hK, hR, hN2, hb, hK4, hR8⟩ := id hC
  refine j_aload_n_0 dX4_quickest_0 ?_
  refine j_iload_n_1 dX4_quickest_1 ?_
  refine C_X4_49 rfl (by decide) dX4_quickest_2 sk_0 (Nat.le_of_ble_eq_true rfl) (Nat.le_of_eq (Nat.zero_add _)) (Nat.le_of_eq (Nat.zero_add _)) (fun _ _ hM' hT' => c_needFloor hN hf hb hM' hT') ?_
  refine j_aload_n_0 dX4_quickest_5 ?_
  refine j_iload_n_2 dX4_quickest_6 ?_
  exact X_X4_49 (n1 := 0) (sh1 := fun _ => (0, 0, fun _ => none)) (V1 := fun _ _ => 0) (L1 := fun _ _ => 0) rfl (by decide) dX4_quickest_7 sk_0 (Nat.le_of_ble_eq_true rfl) (show 1 + 0 ≤ k from hk) (show 6 + 0 ≤ z from hz) (fun _ _ hM' hT' => b_needFloor hN hb hx (Nat.le_refl 1) (Nat.le_refl 6) hM' hT') (fun n' hn' => j_out hM rfl (hX n' hn'))

set_option maxHeartbeats 4000000 in
set_option maxRecDepth 100000 in
theorem g_pipesBetween {sx : Nat → jv_S} {g : jv_G} {X : jv_X} {T : jv_T} {n : Nat} {V : Nat → Nat → Int32} {L : Nat → Nat → Int64} {k z : Nat} {N K R : Nat} (hC : Ct V N K R) {f : Nat} (hf : (f < N)) {t : Nat} (ht : (t < N))  (hM : jv_M g X T) (hT : T (.inl (some (.int (fndC V N f 30 t)))) n (SH sx) (fndC V N f) L) : jv_J g X I_X4_pipesBetween 0 [some (jv_r g 0), some (.int (nI f)), some (.int (nI t))] [] n (SH sx) V L k z := by
  obtain ⟨hN, hK, hR, hN2, hb, hK4, hR8⟩ := id hC
  refine j_aload_n_0 dX4_pipesBetween_0 ?_
  refine j_iload_n_1 dX4_pipesBetween_1 ?_
  refine C_X4_49 rfl (by decide) dX4_pipesBetween_2 sk_0 (Nat.le_of_ble_eq_true rfl) (Nat.le_of_eq (Nat.zero_add _)) (Nat.le_of_eq (Nat.zero_add _)) (fun _ _ hM' hT' => c_needFloor hN hf hb hM' hT') ?_
  refine j_aload_n_0 dX4_pipesBetween_5 ?_
  refine j_iload_n_2 dX4_pipesBetween_6 ?_
  refine C_X4_49 rfl (by decide) dX4_pipesBetween_7 sk_0 (Nat.le_of_ble_eq_true rfl) (Nat.le_of_eq (Nat.zero_add _)) (Nat.le_of_eq (Nat.zero_add _)) (fun _ _ hM' hT' => c_needFloor hN ht hb hM' hT') ?_
  refine j_aload_n_0 dX4_pipesBetween_10 ?_
  refine G_X4_19 rfl dX4_pipesBetween_11 sk_0 sr_0_1 ?_
  refine j_aload_n_0 dX4_pipesBetween_14 ?_
  refine G_X4_10 rfl dX4_pipesBetween_15 sk_0 sr_0_0 ?_
  refine j_iload_n_1 dX4_pipesBetween_18 ?_
  refine C_X4_161 rfl (by decide) dX4_pipesBetween_19 sk_28 (Nat.le_of_ble_eq_true rfl) (Nat.le_of_eq (Nat.zero_add _)) (Nat.le_of_eq (Nat.zero_add _)) (fun _ _ hM' hT' => c_findFrom hN hb hf hM' hT') ?_
  refine j_aload_n_0 dX4_pipesBetween_22 ?_
  refine G_X4_19 rfl dX4_pipesBetween_23 sk_0 sr_0_1 ?_
  refine G_X4_168 rfl dX4_pipesBetween_26 sk_28 sr_28_1 ?_
  refine j_iload_n_2 dX4_pipesBetween_29 ?_
  refine j_iald dX4_pipesBetween_30 sk_30 sn_30 (by omega) (by decide) ?_
  exact j_iret hM dX4_pipesBetween_31 rfl hT

set_option maxHeartbeats 4000000 in
set_option maxRecDepth 100000 in
theorem e_pipesBetween_2 {sx : Nat → jv_S} {g : jv_G} {X : jv_X} {T : jv_T} {n : Nat} {V : Nat → Nat → Int32} {L : Nat → Nat → Int64} {k z : Nat} {N K R : Nat} (hC : Ct V N K R) {f : Int32} {t : Int32} (hx : f < 0 ∨ nI N ≤ f) (hk : 1 ≤ k) (hz : 6 ≤ z) (hM : jv_M g X T) (hX : ∀ n', n ≤ n' → T (.inr "java/lang/IndexOutOfBoundsException") n' (SH sx) V L) : jv_J g X I_X4_pipesBetween 0 [some (jv_r g 0), some (.int f), some (.int t)] [] n (SH sx) V L k z := by
  obtain ⟨hN, hK, hR, hN2, hb, hK4, hR8⟩ := id hC
  refine j_aload_n_0 dX4_pipesBetween_0 ?_
  refine j_iload_n_1 dX4_pipesBetween_1 ?_
  exact X_X4_49 (n1 := 0) (sh1 := fun _ => (0, 0, fun _ => none)) (V1 := fun _ _ => 0) (L1 := fun _ _ => 0) rfl (by decide) dX4_pipesBetween_2 sk_0 (Nat.le_of_ble_eq_true rfl) (show 1 + 0 ≤ k from hk) (show 6 + 0 ≤ z from hz) (fun _ _ hM' hT' => b_needFloor hN hb hx (Nat.le_refl 1) (Nat.le_refl 6) hM' hT') (fun n' hn' => j_out hM rfl (hX n' hn'))

set_option maxHeartbeats 4000000 in
set_option maxRecDepth 100000 in
theorem e_pipesBetween_7 {sx : Nat → jv_S} {g : jv_G} {X : jv_X} {T : jv_T} {n : Nat} {V : Nat → Nat → Int32} {L : Nat → Nat → Int64} {k z : Nat} {N K R : Nat} (hC : Ct V N K R) {f : Nat} (hf : (f < N)) {t : Int32} (hx : t < 0 ∨ nI N ≤ t) (hk : 1 ≤ k) (hz : 6 ≤ z) (hM : jv_M g X T) (hX : ∀ n', n ≤ n' → T (.inr "java/lang/IndexOutOfBoundsException") n' (SH sx) V L) : jv_J g X I_X4_pipesBetween 0 [some (jv_r g 0), some (.int (nI f)), some (.int t)] [] n (SH sx) V L k z := by
  obtain ⟨hN, hK, hR, hN2, hb, hK4, hR8⟩ := id hC
  refine j_aload_n_0 dX4_pipesBetween_0 ?_
  refine j_iload_n_1 dX4_pipesBetween_1 ?_
  refine C_X4_49 rfl (by decide) dX4_pipesBetween_2 sk_0 (Nat.le_of_ble_eq_true rfl) (Nat.le_of_eq (Nat.zero_add _)) (Nat.le_of_eq (Nat.zero_add _)) (fun _ _ hM' hT' => c_needFloor hN hf hb hM' hT') ?_
  refine j_aload_n_0 dX4_pipesBetween_5 ?_
  refine j_iload_n_2 dX4_pipesBetween_6 ?_
  exact X_X4_49 (n1 := 0) (sh1 := fun _ => (0, 0, fun _ => none)) (V1 := fun _ _ => 0) (L1 := fun _ _ => 0) rfl (by decide) dX4_pipesBetween_7 sk_0 (Nat.le_of_ble_eq_true rfl) (show 1 + 0 ≤ k from hk) (show 6 + 0 ≤ z from hz) (fun _ _ hM' hT' => b_needFloor hN hb hx (Nat.le_refl 1) (Nat.le_refl 6) hM' hT') (fun n' hn' => j_out hM rfl (hX n' hn'))

/-- the farthest floor as the class seeks it -/
def farL (V : Nat → Nat → Int32) : Nat → Nat → Nat → Nat
  | 0, _, b => b
  | m + 1, i, b => farL V m (i + 1) (if V 29 i ≤ V 29 b then b else i)
theorem fndC_Ct {V : Nat → Nat → Int32} {N K R f : Nat} (h : Ct V N K R) : Ct (fndC V N f) N K R := h.o (fndC_out (by omega)) (fndC_out (by omega))

set_option maxHeartbeats 4000000 in
set_option maxRecDepth 100000 in
theorem c_far_loop {sx : Nat → jv_S} {g : jv_G} {X : jv_X} {T : jv_T} {n : Nat} {V : Nat → Nat → Int32} {L : Nat → Nat → Int64} {k z : Nat} {N K R : Nat} (hC : Ct V N K R) {f : Nat} (hM : jv_M g X T) : ∀ (m : Nat) (i b : Nat), b < N → i ≤ N → N + 1 ≤ i + m → T (.inl (some (.int (nI (farL V (N - i) i b))))) n (SH sx) (V) L → jv_J g X I_X4_farthestFrom 21 [some (jv_r g 0), some (.int (nI f)), some (.int (nI b)), some (.int (nI i))] [] n (SH sx) V L k z := by
  intro m
  induction m with
  | zero => intro i b hbN hi him hT; omega
  | succ m ih =>
  intro i b hbN hi him hT
  obtain ⟨hN, hK, hR, hN2, hb, hK4, hR8⟩ := id hC
  refine j_iload_n_3 dX4_farthestFrom_21 ?_
  refine j_aload_n_0 dX4_farthestFrom_22 ?_
  refine G_X4_10 rfl dX4_farthestFrom_23 sk_0 sr_0_0 ?_
  refine G_X4_128 rfl dX4_farthestFrom_26 sk_1 ?_
  refine j_top (y := nI N) hN ?_
  refine j_ic_geN (by omega) (by omega) (tgt := 61) dX4_farthestFrom_29 (by decide) (fun h29 => ?_) (fun h29 => ?_)
  · refine j_iload_n_2 dX4_farthestFrom_61 ?_
    exact j_iret hM dX4_farthestFrom_62 rfl (by rw [show N - i = 0 by omega] at hT; exact hT)
  · refine j_aload_n_0 dX4_farthestFrom_32 ?_
    refine G_X4_19 rfl dX4_farthestFrom_33 sk_0 sr_0_1 ?_
    refine G_X4_165 rfl dX4_farthestFrom_36 sk_28 sr_28_0 ?_
    refine j_iload_n_3 dX4_farthestFrom_39 ?_
    refine j_iald dX4_farthestFrom_40 sk_29 sn_29 (by omega) (by decide) ?_
    refine j_aload_n_0 dX4_farthestFrom_41 ?_
    refine G_X4_19 rfl dX4_farthestFrom_42 sk_0 sr_0_1 ?_
    refine G_X4_165 rfl dX4_farthestFrom_45 sk_28 sr_28_0 ?_
    refine j_iload_n_2 dX4_farthestFrom_48 ?_
    refine j_iald dX4_farthestFrom_49 sk_29 sn_29 (by omega) (by decide) ?_
    refine j_ic_le (tgt := 55) dX4_farthestFrom_50 (by decide) (fun h50 => ?_) (fun h50 => ?_)
    · refine j_inc1_3 rfl (by decide) dX4_farthestFrom_55 ?_
      refine j_goto (tgt := 21) dX4_farthestFrom_58 (by decide) ?_
      refine ih (i + 1) _ (by omega) (by omega) (by omega) ?_
      rw [show N - i = (N - (i + 1)) + 1 by omega] at hT
      unfold farL at hT
      rw [if_pos h50] at hT
      exact hT
    · refine j_iload_n_3 dX4_farthestFrom_53 ?_
      refine j_istore_n_2 rfl (by decide) dX4_farthestFrom_54 ?_
      refine j_inc1_3 rfl (by decide) dX4_farthestFrom_55 ?_
      refine j_goto (tgt := 21) dX4_farthestFrom_58 (by decide) ?_
      refine ih (i + 1) _ (by omega) (by omega) (by omega) ?_
      rw [show N - i = (N - (i + 1)) + 1 by omega] at hT
      unfold farL at hT
      rw [if_neg h50] at hT
      exact hT

set_option maxHeartbeats 4000000 in
set_option maxRecDepth 100000 in
theorem g_farthestFrom {sx : Nat → jv_S} {g : jv_G} {X : jv_X} {T : jv_T} {n : Nat} {V : Nat → Nat → Int32} {L : Nat → Nat → Int64} {k z : Nat} {N K R : Nat} (hC : Ct V N K R) {f : Nat} (hf : (f < N))  (hM : jv_M g X T) (hT : T (.inl (some (.int (nI (farL (fndC V N f) N 0 f))))) n (SH sx) (fndC V N f) L) : jv_J g X I_X4_farthestFrom 0 [some (jv_r g 0), some (.int (nI f)), none, none] [] n (SH sx) V L k z := by
  obtain ⟨hN, hK, hR, hN2, hb, hK4, hR8⟩ := id hC
  refine j_aload_n_0 dX4_farthestFrom_0 ?_
  refine j_iload_n_1 dX4_farthestFrom_1 ?_
  refine C_X4_49 rfl (by decide) dX4_farthestFrom_2 sk_0 (Nat.le_of_ble_eq_true rfl) (Nat.le_of_eq (Nat.zero_add _)) (Nat.le_of_eq (Nat.zero_add _)) (fun _ _ hM' hT' => c_needFloor hN hf hb hM' hT') ?_
  refine j_aload_n_0 dX4_farthestFrom_5 ?_
  refine G_X4_19 rfl dX4_farthestFrom_6 sk_0 sr_0_1 ?_
  refine j_aload_n_0 dX4_farthestFrom_9 ?_
  refine G_X4_10 rfl dX4_farthestFrom_10 sk_0 sr_0_0 ?_
  refine j_iload_n_1 dX4_farthestFrom_13 ?_
  refine C_X4_161 rfl (by decide) dX4_farthestFrom_14 sk_28 (Nat.le_of_ble_eq_true rfl) (Nat.le_of_eq (Nat.zero_add _)) (Nat.le_of_eq (Nat.zero_add _)) (fun _ _ hM' hT' => c_findFrom hN hb hf hM' hT') ?_
  refine j_iload_n_1 dX4_farthestFrom_17 ?_
  refine j_istore_n_2 rfl (by decide) dX4_farthestFrom_18 ?_
  refine j_iconst (v := nI 0) dX4_farthestFrom_19 nc_iconst_0 ?_
  refine j_istore_n_3 rfl (by decide) dX4_farthestFrom_20 ?_
  exact c_far_loop (V := fndC V N f) (fndC_Ct hC) hM (N + 1) 0 f hf (by omega) (by omega) hT

set_option maxHeartbeats 4000000 in
set_option maxRecDepth 100000 in
theorem e_farthestFrom_2 {sx : Nat → jv_S} {g : jv_G} {X : jv_X} {T : jv_T} {n : Nat} {V : Nat → Nat → Int32} {L : Nat → Nat → Int64} {k z : Nat} {N K R : Nat} (hC : Ct V N K R) {f : Int32} (hx : f < 0 ∨ nI N ≤ f) (hk : 1 ≤ k) (hz : 6 ≤ z) (hM : jv_M g X T) (hX : ∀ n', n ≤ n' → T (.inr "java/lang/IndexOutOfBoundsException") n' (SH sx) V L) : jv_J g X I_X4_farthestFrom 0 [some (jv_r g 0), some (.int f), none, none] [] n (SH sx) V L k z := by
  obtain ⟨hN, hK, hR, hN2, hb, hK4, hR8⟩ := id hC
  refine j_aload_n_0 dX4_farthestFrom_0 ?_
  refine j_iload_n_1 dX4_farthestFrom_1 ?_
  exact X_X4_49 (n1 := 0) (sh1 := fun _ => (0, 0, fun _ => none)) (V1 := fun _ _ => 0) (L1 := fun _ _ => 0) rfl (by decide) dX4_farthestFrom_2 sk_0 (Nat.le_of_ble_eq_true rfl) (show 1 + 0 ≤ k from hk) (show 6 + 0 ≤ z from hz) (fun _ _ hM' hT' => b_needFloor hN hb hx (Nat.le_refl 1) (Nat.le_refl 6) hM' hT') (fun n' hn' => j_out hM rfl (hX n' hn'))

/-- the centre: the ways' tables are threaded; the best so far and its hours -/
def cenL (N : Nat) : Nat → Nat → (Nat → Nat → Int32) → Option Nat → Int32 → (Nat → Nat → Int32) × Option Nat
  | 0, _, V, b, _ => (V, b)
  | m + 1, i, V, b, l => if ¬ gthL (fndC V N i) N 0 (nI 0) = -1 ∧ (b = none ∨ gthL (fndC V N i) N 0 (nI 0) < l) then cenL N m (i + 1) (fndC V N i) (some i) (gthL (fndC V N i) N 0 (nI 0)) else cenL N m (i + 1) (fndC V N i) b l
def oz (b : Option Nat) : Int32 := match b with
  | none => nI 0
  | some j => nI j

set_option maxHeartbeats 4000000 in
set_option maxRecDepth 100000 in
theorem c_cen_loop {sx : Nat → jv_S} {g : jv_G} {X : jv_X} {T : jv_T} {n : Nat} {V : Nat → Nat → Int32} {L : Nat → Nat → Int64} {k z : Nat} {N K R : Nat} (hM : jv_M g X T) : ∀ (m : Nat) (i : Nat) (V : (Nat → Nat → Int32)) (b : Option Nat) (x2 : Int32) (v4 : Option Value), Ct V N K R → (∀ j, b = some j → j < N) → i ≤ N → N + 1 ≤ i + m → T (.inl (some (.int (oz (cenL N (N - i) i V b x2).2)))) n (SH sx) ((cenL N (N - i) i V b x2).1) L → jv_J g X I_X4_centre 6 [some (jv_r g 0), some (.int (ov b)), some (.int x2), some (.int (nI i)), v4] [] n (SH sx) V L k z := by
  intro m
  induction m with
  | zero => intro i V b x2 v4 hC hbj hi him hT; omega
  | succ m ih =>
  intro i V b x2 v4 hC hbj hi him hT
  obtain ⟨hN, hK, hR, hN2, hb, hK4, hR8⟩ := id hC
  cases b with
  | none =>
    show jv_J g X I_X4_centre 6 [some (jv_r g 0), some (.int (-1)), some (.int x2), some (.int (nI i)), v4] [] n (SH sx) V L k z
    refine j_iload_n_3 dX4_centre_6 ?_
    refine j_aload_n_0 dX4_centre_7 ?_
    refine G_X4_10 rfl dX4_centre_8 sk_0 sr_0_0 ?_
    refine G_X4_128 rfl dX4_centre_11 sk_1 ?_
    refine j_top (y := nI N) hN ?_
    refine j_ic_geN (by omega) (by omega) (tgt := 73) dX4_centre_14 (by decide) (fun h14 => ?_) (fun h14 => ?_)
    · refine j_iload_n_1 dX4_centre_73 ?_
      refine j_iconst (v := -1) dX4_centre_74 nc_iconst_m1 ?_
      refine j_ic_ne (tgt := 82) dX4_centre_75 (by decide) (fun h75 => ?_) (fun h75 => ?_)
      · exact absurd rfl h75
      · refine j_iconst (v := nI 0) dX4_centre_78 nc_iconst_0 ?_
        refine j_goto (tgt := 83) dX4_centre_79 (by decide) ?_
        exact j_iret hM dX4_centre_83 rfl (by rw [show N - i = 0 by omega] at hT; exact hT)
    · refine j_aload_n_0 dX4_centre_17 ?_
      refine G_X4_19 rfl dX4_centre_18 sk_0 sr_0_1 ?_
      refine j_aload_n_0 dX4_centre_21 ?_
      refine G_X4_10 rfl dX4_centre_22 sk_0 sr_0_0 ?_
      refine j_iload_n_3 dX4_centre_25 ?_
      refine C_X4_161 rfl (by decide) dX4_centre_26 sk_28 (Nat.le_of_ble_eq_true rfl) (Nat.le_of_eq (Nat.zero_add _)) (Nat.le_of_eq (Nat.zero_add _)) (fun _ _ hM' hT' => c_findFrom hN hb (by omega) hM' hT') ?_
      refine j_aload_n_0 dX4_centre_29 ?_
      refine G_X4_19 rfl dX4_centre_30 sk_0 sr_0_1 ?_
      refine j_aload_n_0 dX4_centre_33 ?_
      refine G_X4_10 rfl dX4_centre_34 sk_0 sr_0_0 ?_
      have hN : fndC V N i 1 0 = nI N := (fndC_Ct hC).1
      refine G_X4_128 rfl dX4_centre_37 sk_1 ?_
      refine j_top (y := nI N) hN ?_
      refine C_X4_170 rfl (by decide) dX4_centre_40 sk_28 (Nat.le_of_ble_eq_true rfl) (Nat.le_of_eq (Nat.zero_add _)) (Nat.le_of_eq (Nat.zero_add _)) (fun _ _ hM' hT' => c_greatestHours hb hM' hT') ?_
      refine j_istore_4 rfl (by decide) dX4_centre_43 ?_
      refine j_iload_4 dX4_centre_45 ?_
      refine j_iconst (v := -1) dX4_centre_47 nc_iconst_m1 ?_
      refine j_ic_eq (tgt := 67) dX4_centre_48 (by decide) (fun h48 => ?_) (fun h48 => ?_)
      · refine j_inc1_3 rfl (by decide) dX4_centre_67 ?_
        refine j_goto (tgt := 6) dX4_centre_70 (by decide) ?_
        refine ih (i + 1) (fndC V N i) none _ _ (fndC_Ct hC) (fun j hj => by cases hj) (by omega) (by omega) ?_
        rw [show N - i = (N - (i + 1)) + 1 by omega] at hT
        unfold cenL at hT
        rw [if_neg (fun c => c.1 h48)] at hT
        exact hT
      · refine j_iload_n_1 dX4_centre_51 ?_
        refine j_iconst (v := -1) dX4_centre_52 nc_iconst_m1 ?_
        refine j_ic_eq (tgt := 62) dX4_centre_53 (by decide) (fun h53 => ?_) (fun h53 => ?_)
        · refine j_iload_n_3 dX4_centre_62 ?_
          refine j_istore_n_1 rfl (by decide) dX4_centre_63 ?_
          refine j_iload_4 dX4_centre_64 ?_
          refine j_istore_n_2 rfl (by decide) dX4_centre_66 ?_
          refine j_inc1_3 rfl (by decide) dX4_centre_67 ?_
          refine j_goto (tgt := 6) dX4_centre_70 (by decide) ?_
          refine ih (i + 1) (fndC V N i) (some i) _ _ (fndC_Ct hC) (fun j hj => by cases hj; omega) (by omega) (by omega) ?_
          rw [show N - i = (N - (i + 1)) + 1 by omega] at hT
          unfold cenL at hT
          rw [if_pos ⟨h48, Or.inl rfl⟩] at hT
          exact hT
        · exact absurd rfl h53
  | some j =>
    have hj : j < N := hbj j rfl
    show jv_J g X I_X4_centre 6 [some (jv_r g 0), some (.int (nI j)), some (.int x2), some (.int (nI i)), v4] [] n (SH sx) V L k z
    refine j_iload_n_3 dX4_centre_6 ?_
    refine j_aload_n_0 dX4_centre_7 ?_
    refine G_X4_10 rfl dX4_centre_8 sk_0 sr_0_0 ?_
    refine G_X4_128 rfl dX4_centre_11 sk_1 ?_
    refine j_top (y := nI N) hN ?_
    refine j_ic_geN (by omega) (by omega) (tgt := 73) dX4_centre_14 (by decide) (fun h14 => ?_) (fun h14 => ?_)
    · refine j_iload_n_1 dX4_centre_73 ?_
      refine j_iconst (v := -1) dX4_centre_74 nc_iconst_m1 ?_
      refine j_ic_ne (tgt := 82) dX4_centre_75 (by decide) (fun h75 => ?_) (fun h75 => ?_)
      · refine j_iload_n_1 dX4_centre_82 ?_
        exact j_iret hM dX4_centre_83 rfl (by rw [show N - i = 0 by omega] at hT; exact hT)
      · exact absurd h75 (nI_nm1 (by omega))
    · refine j_aload_n_0 dX4_centre_17 ?_
      refine G_X4_19 rfl dX4_centre_18 sk_0 sr_0_1 ?_
      refine j_aload_n_0 dX4_centre_21 ?_
      refine G_X4_10 rfl dX4_centre_22 sk_0 sr_0_0 ?_
      refine j_iload_n_3 dX4_centre_25 ?_
      refine C_X4_161 rfl (by decide) dX4_centre_26 sk_28 (Nat.le_of_ble_eq_true rfl) (Nat.le_of_eq (Nat.zero_add _)) (Nat.le_of_eq (Nat.zero_add _)) (fun _ _ hM' hT' => c_findFrom hN hb (by omega) hM' hT') ?_
      refine j_aload_n_0 dX4_centre_29 ?_
      refine G_X4_19 rfl dX4_centre_30 sk_0 sr_0_1 ?_
      refine j_aload_n_0 dX4_centre_33 ?_
      refine G_X4_10 rfl dX4_centre_34 sk_0 sr_0_0 ?_
      have hN : fndC V N i 1 0 = nI N := (fndC_Ct hC).1
      refine G_X4_128 rfl dX4_centre_37 sk_1 ?_
      refine j_top (y := nI N) hN ?_
      refine C_X4_170 rfl (by decide) dX4_centre_40 sk_28 (Nat.le_of_ble_eq_true rfl) (Nat.le_of_eq (Nat.zero_add _)) (Nat.le_of_eq (Nat.zero_add _)) (fun _ _ hM' hT' => c_greatestHours hb hM' hT') ?_
      refine j_istore_4 rfl (by decide) dX4_centre_43 ?_
      refine j_iload_4 dX4_centre_45 ?_
      refine j_iconst (v := -1) dX4_centre_47 nc_iconst_m1 ?_
      refine j_ic_eq (tgt := 67) dX4_centre_48 (by decide) (fun h48 => ?_) (fun h48 => ?_)
      · refine j_inc1_3 rfl (by decide) dX4_centre_67 ?_
        refine j_goto (tgt := 6) dX4_centre_70 (by decide) ?_
        refine ih (i + 1) (fndC V N i) (some j) _ _ (fndC_Ct hC) hbj (by omega) (by omega) ?_
        rw [show N - i = (N - (i + 1)) + 1 by omega] at hT
        unfold cenL at hT
        rw [if_neg (fun c => c.1 h48)] at hT
        exact hT
      · refine j_iload_n_1 dX4_centre_51 ?_
        refine j_iconst (v := -1) dX4_centre_52 nc_iconst_m1 ?_
        refine j_ic_eq (tgt := 62) dX4_centre_53 (by decide) (fun h53 => ?_) (fun h53 => ?_)
        · exact absurd h53 (nI_nm1 (by omega))
        · refine j_iload_4 dX4_centre_56 ?_
          refine j_iload_n_2 dX4_centre_58 ?_
          refine j_ic_ge (tgt := 67) dX4_centre_59 (by decide) (fun h59 => ?_) (fun h59 => ?_)
          · refine j_inc1_3 rfl (by decide) dX4_centre_67 ?_
            refine j_goto (tgt := 6) dX4_centre_70 (by decide) ?_
            refine ih (i + 1) (fndC V N i) (some j) _ _ (fndC_Ct hC) hbj (by omega) (by omega) ?_
            rw [show N - i = (N - (i + 1)) + 1 by omega] at hT
            unfold cenL at hT
            rw [if_neg (fun c => c.2.elim (fun q => by cases q) (fun q => absurd q (Int32.not_lt.mpr h59)))] at hT
            exact hT
          · refine j_iload_n_3 dX4_centre_62 ?_
            refine j_istore_n_1 rfl (by decide) dX4_centre_63 ?_
            refine j_iload_4 dX4_centre_64 ?_
            refine j_istore_n_2 rfl (by decide) dX4_centre_66 ?_
            refine j_inc1_3 rfl (by decide) dX4_centre_67 ?_
            refine j_goto (tgt := 6) dX4_centre_70 (by decide) ?_
            refine ih (i + 1) (fndC V N i) (some i) _ _ (fndC_Ct hC) (fun j hj => by cases hj; omega) (by omega) (by omega) ?_
            rw [show N - i = (N - (i + 1)) + 1 by omega] at hT
            unfold cenL at hT
            rw [if_pos ⟨h48, Or.inr (Int32.not_le.mp h59)⟩] at hT
            exact hT

set_option maxHeartbeats 4000000 in
set_option maxRecDepth 100000 in
theorem g_centre {sx : Nat → jv_S} {g : jv_G} {X : jv_X} {T : jv_T} {n : Nat} {V : Nat → Nat → Int32} {L : Nat → Nat → Int64} {k z : Nat} {N K R : Nat} (hC : Ct V N K R)  (hM : jv_M g X T) (hT : T (.inl (some (.int (oz (cenL N N 0 V none (nI 0)).2)))) n (SH sx) ((cenL N N 0 V none (nI 0)).1) L) : jv_J g X I_X4_centre 0 [some (jv_r g 0), none, none, none, none] [] n (SH sx) V L k z := by
  obtain ⟨hN, hK, hR, hN2, hb, hK4, hR8⟩ := id hC
  refine j_iconst (v := -1) dX4_centre_0 nc_iconst_m1 ?_
  refine j_istore_n_1 rfl (by decide) dX4_centre_1 ?_
  refine j_iconst (v := nI 0) dX4_centre_2 nc_iconst_0 ?_
  refine j_istore_n_2 rfl (by decide) dX4_centre_3 ?_
  refine j_iconst (v := nI 0) dX4_centre_4 nc_iconst_0 ?_
  refine j_istore_n_3 rfl (by decide) dX4_centre_5 ?_
  exact c_cen_loop (V := V) hM (N + 1) 0 V none _ _ hC (fun j hj => by cases hj) (by omega) (by omega) hT

def parL (N : Nat) : Nat → Nat → (Nat → Nat → Int32) → Nat → (Nat → Nat → Int32) × Nat
  | 0, _, V, a => (V, a)
  | m + 1, i, V, a => parL N m (i + 1) (fndC V N i) (if lbwL (fndC V N i) i 0 = true then a else a + 1)

set_option maxHeartbeats 4000000 in
set_option maxRecDepth 100000 in
theorem c_parts_loop {sx : Nat → jv_S} {g : jv_G} {X : jv_X} {T : jv_T} {n : Nat} {V : Nat → Nat → Int32} {L : Nat → Nat → Int64} {k z : Nat} {N K R : Nat} (hM : jv_M g X T) : ∀ (m : Nat) (i : Nat) (V : (Nat → Nat → Int32)) (a : Nat), Ct V N K R → i ≤ N → N + 1 ≤ i + m → T (.inl (some (.int (nI (parL N (N - i) i V a).2)))) n (SH sx) ((parL N (N - i) i V a).1) L → jv_J g X I_X4_parts 4 [some (jv_r g 0), some (.int (nI a)), some (.int (nI i))] [] n (SH sx) V L k z := by
  intro m
  induction m with
  | zero => intro i V a hC hi him hT; omega
  | succ m ih =>
  intro i V a hC hi him hT
  obtain ⟨hN, hK, hR, hN2, hb, hK4, hR8⟩ := id hC
  refine j_iload_n_2 dX4_parts_4 ?_
  refine j_aload_n_0 dX4_parts_5 ?_
  refine G_X4_10 rfl dX4_parts_6 sk_0 sr_0_0 ?_
  refine G_X4_128 rfl dX4_parts_9 sk_1 ?_
  refine j_top (y := nI N) hN ?_
  refine j_ic_geN (by omega) (by omega) (tgt := 47) dX4_parts_12 (by decide) (fun h12 => ?_) (fun h12 => ?_)
  · refine j_iload_n_1 dX4_parts_47 ?_
    exact j_iret hM dX4_parts_48 rfl (by rw [show N - i = 0 by omega] at hT; exact hT)
  · refine j_aload_n_0 dX4_parts_15 ?_
    refine G_X4_19 rfl dX4_parts_16 sk_0 sr_0_1 ?_
    refine j_aload_n_0 dX4_parts_19 ?_
    refine G_X4_10 rfl dX4_parts_20 sk_0 sr_0_0 ?_
    refine j_iload_n_2 dX4_parts_23 ?_
    refine C_X4_161 rfl (by decide) dX4_parts_24 sk_28 (Nat.le_of_ble_eq_true rfl) (Nat.le_of_eq (Nat.zero_add _)) (Nat.le_of_eq (Nat.zero_add _)) (fun _ _ hM' hT' => c_findFrom hN hb (by omega) hM' hT') ?_
    refine j_aload_n_0 dX4_parts_27 ?_
    refine G_X4_19 rfl dX4_parts_28 sk_0 sr_0_1 ?_
    refine j_iload_n_2 dX4_parts_31 ?_
    refine C_X4_174 rfl (by decide) dX4_parts_32 sk_28 (Nat.le_of_ble_eq_true rfl) (Nat.le_of_eq (Nat.zero_add _)) (Nat.le_of_eq (Nat.zero_add _)) (fun _ _ hM' hT' => c_leadBelow (by omega) hM' hT') ?_
    refine j_if_ne (tgt := 41) dX4_parts_35 (by decide) (fun h35 => ?_) (fun h35 => ?_)
    · refine j_inc1_2 rfl (by decide) dX4_parts_41 ?_
      refine j_goto (tgt := 4) dX4_parts_44 (by decide) ?_
      refine ih (i + 1) _ _ (fndC_Ct hC) (by omega) (by omega) ?_
      rw [show N - i = (N - (i + 1)) + 1 by omega] at hT
      unfold parL at hT
      rw [if_pos (bz_t h35)] at hT
      exact hT
    · refine j_inc1_1 rfl (by decide) dX4_parts_38 ?_
      refine j_inc1_2 rfl (by decide) dX4_parts_41 ?_
      refine j_goto (tgt := 4) dX4_parts_44 (by decide) ?_
      refine ih (i + 1) _ _ (fndC_Ct hC) (by omega) (by omega) ?_
      rw [show N - i = (N - (i + 1)) + 1 by omega] at hT
      unfold parL at hT
      rw [if_neg (by rw [bz_f h35]; decide)] at hT
      exact hT

set_option maxHeartbeats 4000000 in
set_option maxRecDepth 100000 in
theorem g_parts {sx : Nat → jv_S} {g : jv_G} {X : jv_X} {T : jv_T} {n : Nat} {V : Nat → Nat → Int32} {L : Nat → Nat → Int64} {k z : Nat} {N K R : Nat} (hC : Ct V N K R)  (hM : jv_M g X T) (hT : T (.inl (some (.int (nI (parL N N 0 V 0).2)))) n (SH sx) ((parL N N 0 V 0).1) L) : jv_J g X I_X4_parts 0 [some (jv_r g 0), none, none] [] n (SH sx) V L k z := by
  obtain ⟨hN, hK, hR, hN2, hb, hK4, hR8⟩ := id hC
  refine j_iconst (v := nI 0) dX4_parts_0 nc_iconst_0 ?_
  refine j_istore_n_1 rfl (by decide) dX4_parts_1 ?_
  refine j_iconst (v := nI 0) dX4_parts_2 nc_iconst_0 ?_
  refine j_istore_n_2 rfl (by decide) dX4_parts_3 ?_
  exact c_parts_loop (V := V) hM (N + 1) 0 V 0 hC (by omega) (by omega) hT

def letL (V : Nat → Nat → Int32) (N K l : Nat) (b : Int32) : Nat → Nat → Int32 := layV (jv_U V (20 + 2 * l) 0 b) N K
theorem letL_Ct {V : Nat → Nat → Int32} {N K R l : Nat} {b : Int32} (h : Ct V N K R) : Ct (letL V N K l b) N K R := h.o (by unfold letL; rw [layV_out (by omega), jv_U_other (by omega)]) (by unfold letL; rw [layV_out (by omega), jv_U_other (by omega)])
def gb1 (V : Nat → Nat → Int32) (N K l f : Nat) : Nat → Nat → Int32 := fndC (letL V N K l (nI 1)) N f
def gb2 (V : Nat → Nat → Int32) (N K l f : Nat) : Nat → Nat → Int32 := fndC (letL (gb1 V N K l f) N K l (nI 0)) N f
def gbV (V : Nat → Nat → Int32) (N K l f : Nat) : Nat → Nat → Int32 := letL (gb2 V N K l f) N K l (V (20 + 2 * l) 0)
def gbR (a b : Int32) : Int32 := if a = -1 then nI 0 else if b = -1 then -1 else b - a

set_option maxHeartbeats 4000000 in
set_option maxRecDepth 100000 in
theorem g_wouldHear {sx : Nat → jv_S} {g : jv_G} {X : jv_X} {T : jv_T} {n : Nat} {V : Nat → Nat → Int32} {L : Nat → Nat → Int64} {k z : Nat} {N K R : Nat} (hC : Ct V N K R) {j : Nat} (hj : (j < R)) {f : Nat} (hf : (f < N))  (hM : jv_M g X T) (hT : T (.inl (some (.int (triV V N j 35 f)))) n (SH sx) (triV V N j) L) : jv_J g X I_X4_wouldHear 0 [some (jv_r g 0), some (.int (nI j)), some (.int (nI f))] [] n (SH sx) V L k z := by
  obtain ⟨hN, hK, hR, hN2, hb, hK4, hR8⟩ := id hC
  refine j_aload_n_0 dX4_wouldHear_0 ?_
  refine j_iload_n_1 dX4_wouldHear_1 ?_
  refine C_X4_112 rfl (by decide) dX4_wouldHear_2 sk_0 (Nat.le_of_ble_eq_true rfl) (Nat.le_of_eq (Nat.zero_add _)) (Nat.le_of_eq (Nat.zero_add _)) (fun _ _ hM' hT' => c_needRumour hR hj (by omega) hM' hT') ?_
  refine j_aload_n_0 dX4_wouldHear_5 ?_
  refine j_iload_n_2 dX4_wouldHear_6 ?_
  refine C_X4_49 rfl (by decide) dX4_wouldHear_7 sk_0 (Nat.le_of_ble_eq_true rfl) (Nat.le_of_eq (Nat.zero_add _)) (Nat.le_of_eq (Nat.zero_add _)) (fun _ _ hM' hT' => c_needFloor hN hf hb hM' hT') ?_
  refine j_aload_n_0 dX4_wouldHear_10 ?_
  refine G_X4_30 rfl dX4_wouldHear_11 sk_0 sr_0_3 ?_
  refine j_aload_n_0 dX4_wouldHear_14 ?_
  refine G_X4_25 rfl dX4_wouldHear_15 sk_0 sr_0_2 ?_
  refine j_iload_n_1 dX4_wouldHear_18 ?_
  refine jv_aald (t := 3) (fun _ => rfl) rfl (by decide) (by decide) dX4_wouldHear_19 sk_32 sn_32 (by omega) (by decide) (sr_sta (by omega)) ?_
  refine C_X4_181 rfl (by decide) dX4_wouldHear_20 (sk_rum isRum.tr) (Nat.le_of_ble_eq_true rfl) (Nat.le_of_eq (Nat.zero_add _)) (Nat.le_of_eq (Nat.zero_add _)) (fun _ _ hM' hT' => c_copyFrom isRum.tr (isRum.of (by omega)) (by omega) hM' hT') ?_
  refine j_aload_n_0 dX4_wouldHear_23 ?_
  refine G_X4_30 rfl dX4_wouldHear_24 sk_0 sr_0_3 ?_
  refine j_aload_n_0 dX4_wouldHear_27 ?_
  refine G_X4_10 rfl dX4_wouldHear_28 sk_0 sr_0_0 ?_
  refine j_aload_n_0 dX4_wouldHear_31 ?_
  refine G_X4_38 rfl dX4_wouldHear_32 sk_0 ?_
  refine j_top (y := V 0 5) (by rw [cpR_out (by omega)]) ?_
  refine C_X4_185 rfl (by decide) dX4_wouldHear_35 (sk_rum isRum.tr) (Nat.le_of_ble_eq_true rfl) (Nat.le_of_eq (Nat.zero_add _)) (Nat.le_of_eq (Nat.zero_add _)) (fun _ _ hM' hT' => c_lookAhead isRum.tr (by rw [cpR_out (by omega)]; exact hN) hb hM' hT') ?_
  refine j_pop rfl dX4_wouldHear_38 ?_
  refine j_aload_n_0 dX4_wouldHear_39 ?_
  refine G_X4_30 rfl dX4_wouldHear_40 sk_0 sr_0_3 ?_
  refine G_X4_144 rfl dX4_wouldHear_43 (sk_rum isRum.tr) (sr_rum_3 isRum.tr) ?_
  refine j_iload_n_2 dX4_wouldHear_46 ?_
  refine j_iald dX4_wouldHear_47 (sk_rua_2 isRum.tr) (sn_rua_2 isRum.tr) (by omega) (by decide) ?_
  exact j_iret hM dX4_wouldHear_48 rfl hT

set_option maxHeartbeats 4000000 in
set_option maxRecDepth 100000 in
theorem e_wouldHear_2 {sx : Nat → jv_S} {g : jv_G} {X : jv_X} {T : jv_T} {n : Nat} {V : Nat → Nat → Int32} {L : Nat → Nat → Int64} {k z : Nat} {N K R : Nat} (hC : Ct V N K R) {j : Int32} {f : Int32} (hx : j < 0 ∨ nI R ≤ j) (hk : 1 ≤ k) (hz : 6 ≤ z) (hM : jv_M g X T) (hX : ∀ n', n ≤ n' → T (.inr "java/lang/IndexOutOfBoundsException") n' (SH sx) V L) : jv_J g X I_X4_wouldHear 0 [some (jv_r g 0), some (.int j), some (.int f)] [] n (SH sx) V L k z := by
  obtain ⟨hN, hK, hR, hN2, hb, hK4, hR8⟩ := id hC
  refine j_aload_n_0 dX4_wouldHear_0 ?_
  refine j_iload_n_1 dX4_wouldHear_1 ?_
  exact X_X4_112 (n1 := 0) (sh1 := fun _ => (0, 0, fun _ => none)) (V1 := fun _ _ => 0) (L1 := fun _ _ => 0) rfl (by decide) dX4_wouldHear_2 sk_0 (Nat.le_of_ble_eq_true rfl) (show 1 + 0 ≤ k from hk) (show 6 + 0 ≤ z from hz) (fun _ _ hM' hT' => b_needRumour hR (by omega) hx (Nat.le_refl 1) (Nat.le_refl 6) hM' hT') (fun n' hn' => j_out hM rfl (hX n' hn'))

set_option maxHeartbeats 4000000 in
set_option maxRecDepth 100000 in
theorem e_wouldHear_7 {sx : Nat → jv_S} {g : jv_G} {X : jv_X} {T : jv_T} {n : Nat} {V : Nat → Nat → Int32} {L : Nat → Nat → Int64} {k z : Nat} {N K R : Nat} (hC : Ct V N K R) {j : Nat} (hj : (j < R)) {f : Int32} (hx : f < 0 ∨ nI N ≤ f) (hk : 1 ≤ k) (hz : 6 ≤ z) (hM : jv_M g X T) (hX : ∀ n', n ≤ n' → T (.inr "java/lang/IndexOutOfBoundsException") n' (SH sx) V L) : jv_J g X I_X4_wouldHear 0 [some (jv_r g 0), some (.int (nI j)), some (.int f)] [] n (SH sx) V L k z := by
  obtain ⟨hN, hK, hR, hN2, hb, hK4, hR8⟩ := id hC
  refine j_aload_n_0 dX4_wouldHear_0 ?_
  refine j_iload_n_1 dX4_wouldHear_1 ?_
  refine C_X4_112 rfl (by decide) dX4_wouldHear_2 sk_0 (Nat.le_of_ble_eq_true rfl) (Nat.le_of_eq (Nat.zero_add _)) (Nat.le_of_eq (Nat.zero_add _)) (fun _ _ hM' hT' => c_needRumour hR hj (by omega) hM' hT') ?_
  refine j_aload_n_0 dX4_wouldHear_5 ?_
  refine j_iload_n_2 dX4_wouldHear_6 ?_
  exact X_X4_49 (n1 := 0) (sh1 := fun _ => (0, 0, fun _ => none)) (V1 := fun _ _ => 0) (L1 := fun _ _ => 0) rfl (by decide) dX4_wouldHear_7 sk_0 (Nat.le_of_ble_eq_true rfl) (show 1 + 0 ≤ k from hk) (show 6 + 0 ≤ z from hz) (fun _ _ hM' hT' => b_needFloor hN hb hx (Nat.le_refl 1) (Nat.le_refl 6) hM' hT') (fun n' hn' => j_out hM rfl (hX n' hn'))

set_option maxHeartbeats 4000000 in
set_option maxRecDepth 100000 in
theorem g_believersInTheEnd {sx : Nat → jv_S} {g : jv_G} {X : jv_X} {T : jv_T} {n : Nat} {V : Nat → Nat → Int32} {L : Nat → Nat → Int64} {k z : Nat} {N K R : Nat} (hC : Ct V N K R) {j : Nat} (hj : (j < R))  (hM : jv_M g X T) (hT : T (.inl (some (.int (hbL (triV V N j) 33 N 0 (nI 0))))) n (SH sx) (triV V N j) L) : jv_J g X I_X4_believersInTheEnd 0 [some (jv_r g 0), some (.int (nI j))] [] n (SH sx) V L k z := by
  obtain ⟨hN, hK, hR, hN2, hb, hK4, hR8⟩ := id hC
  refine j_aload_n_0 dX4_believersInTheEnd_0 ?_
  refine j_iload_n_1 dX4_believersInTheEnd_1 ?_
  refine C_X4_112 rfl (by decide) dX4_believersInTheEnd_2 sk_0 (Nat.le_of_ble_eq_true rfl) (Nat.le_of_eq (Nat.zero_add _)) (Nat.le_of_eq (Nat.zero_add _)) (fun _ _ hM' hT' => c_needRumour hR hj (by omega) hM' hT') ?_
  refine j_aload_n_0 dX4_believersInTheEnd_5 ?_
  refine G_X4_30 rfl dX4_believersInTheEnd_6 sk_0 sr_0_3 ?_
  refine j_aload_n_0 dX4_believersInTheEnd_9 ?_
  refine G_X4_25 rfl dX4_believersInTheEnd_10 sk_0 sr_0_2 ?_
  refine j_iload_n_1 dX4_believersInTheEnd_13 ?_
  refine jv_aald (t := 3) (fun _ => rfl) rfl (by decide) (by decide) dX4_believersInTheEnd_14 sk_32 sn_32 (by omega) (by decide) (sr_sta (by omega)) ?_
  refine C_X4_181 rfl (by decide) dX4_believersInTheEnd_15 (sk_rum isRum.tr) (Nat.le_of_ble_eq_true rfl) (Nat.le_of_eq (Nat.zero_add _)) (Nat.le_of_eq (Nat.zero_add _)) (fun _ _ hM' hT' => c_copyFrom isRum.tr (isRum.of (by omega)) (by omega) hM' hT') ?_
  refine j_aload_n_0 dX4_believersInTheEnd_18 ?_
  refine G_X4_30 rfl dX4_believersInTheEnd_19 sk_0 sr_0_3 ?_
  refine j_aload_n_0 dX4_believersInTheEnd_22 ?_
  refine G_X4_10 rfl dX4_believersInTheEnd_23 sk_0 sr_0_0 ?_
  refine j_aload_n_0 dX4_believersInTheEnd_26 ?_
  refine G_X4_38 rfl dX4_believersInTheEnd_27 sk_0 ?_
  refine j_top (y := V 0 5) (by rw [cpR_out (by omega)]) ?_
  refine C_X4_185 rfl (by decide) dX4_believersInTheEnd_30 (sk_rum isRum.tr) (Nat.le_of_ble_eq_true rfl) (Nat.le_of_eq (Nat.zero_add _)) (Nat.le_of_eq (Nat.zero_add _)) (fun _ _ hM' hT' => c_lookAhead isRum.tr (by rw [cpR_out (by omega)]; exact hN) hb hM' hT') ?_
  refine j_pop rfl dX4_believersInTheEnd_33 ?_
  refine j_aload_n_0 dX4_believersInTheEnd_34 ?_
  refine G_X4_30 rfl dX4_believersInTheEnd_35 sk_0 sr_0_3 ?_
  refine j_aload_n_0 dX4_believersInTheEnd_38 ?_
  refine G_X4_10 rfl dX4_believersInTheEnd_39 sk_0 sr_0_0 ?_
  refine C_X4_153 rfl (by decide) dX4_believersInTheEnd_42 (sk_rum isRum.tr) (Nat.le_of_ble_eq_true rfl) (Nat.le_of_eq (Nat.zero_add _)) (Nat.le_of_eq (Nat.zero_add _)) (fun _ _ hM' hT' => c_headsThatBelieve isRum.tr (show triV V N j 1 0 = nI N by rw [triV_out (by omega)]; exact hN) hb hM' hT') ?_
  exact j_iret hM dX4_believersInTheEnd_45 rfl hT

set_option maxHeartbeats 4000000 in
set_option maxRecDepth 100000 in
theorem e_believersInTheEnd_2 {sx : Nat → jv_S} {g : jv_G} {X : jv_X} {T : jv_T} {n : Nat} {V : Nat → Nat → Int32} {L : Nat → Nat → Int64} {k z : Nat} {N K R : Nat} (hC : Ct V N K R) {j : Int32} (hx : j < 0 ∨ nI R ≤ j) (hk : 1 ≤ k) (hz : 6 ≤ z) (hM : jv_M g X T) (hX : ∀ n', n ≤ n' → T (.inr "java/lang/IndexOutOfBoundsException") n' (SH sx) V L) : jv_J g X I_X4_believersInTheEnd 0 [some (jv_r g 0), some (.int j)] [] n (SH sx) V L k z := by
  obtain ⟨hN, hK, hR, hN2, hb, hK4, hR8⟩ := id hC
  refine j_aload_n_0 dX4_believersInTheEnd_0 ?_
  refine j_iload_n_1 dX4_believersInTheEnd_1 ?_
  exact X_X4_112 (n1 := 0) (sh1 := fun _ => (0, 0, fun _ => none)) (V1 := fun _ _ => 0) (L1 := fun _ _ => 0) rfl (by decide) dX4_believersInTheEnd_2 sk_0 (Nat.le_of_ble_eq_true rfl) (show 1 + 0 ≤ k from hk) (show 6 + 0 ≤ z from hz) (fun _ _ hM' hT' => b_needRumour hR (by omega) hx (Nat.le_refl 1) (Nat.le_refl 6) hM' hT') (fun n' hn' => j_out hM rfl (hX n' hn'))

def qtR (V : Nat → Nat → Int32) (N j : Nat) : Int32 := if quL (triV V N j) 33 N 0 = true then nI (laC 33 N (V 0 5) 100 0 (cpR V (43 + 10 * j) 33)) else -1

set_option maxHeartbeats 4000000 in
set_option maxRecDepth 100000 in
theorem g_quietIn {sx : Nat → jv_S} {g : jv_G} {X : jv_X} {T : jv_T} {n : Nat} {V : Nat → Nat → Int32} {L : Nat → Nat → Int64} {k z : Nat} {N K R : Nat} (hC : Ct V N K R) {j : Nat} (hj : (j < R))  (hM : jv_M g X T) (hT : T (.inl (some (.int (qtR V N j)))) n (SH sx) (triV V N j) L) : jv_J g X I_X4_quietIn 0 [some (jv_r g 0), some (.int (nI j)), none] [] n (SH sx) V L k z := by
  obtain ⟨hN, hK, hR, hN2, hb, hK4, hR8⟩ := id hC
  refine j_aload_n_0 dX4_quietIn_0 ?_
  refine j_iload_n_1 dX4_quietIn_1 ?_
  refine C_X4_112 rfl (by decide) dX4_quietIn_2 sk_0 (Nat.le_of_ble_eq_true rfl) (Nat.le_of_eq (Nat.zero_add _)) (Nat.le_of_eq (Nat.zero_add _)) (fun _ _ hM' hT' => c_needRumour hR hj (by omega) hM' hT') ?_
  refine j_aload_n_0 dX4_quietIn_5 ?_
  refine G_X4_30 rfl dX4_quietIn_6 sk_0 sr_0_3 ?_
  refine j_aload_n_0 dX4_quietIn_9 ?_
  refine G_X4_25 rfl dX4_quietIn_10 sk_0 sr_0_2 ?_
  refine j_iload_n_1 dX4_quietIn_13 ?_
  refine jv_aald (t := 3) (fun _ => rfl) rfl (by decide) (by decide) dX4_quietIn_14 sk_32 sn_32 (by omega) (by decide) (sr_sta (by omega)) ?_
  refine C_X4_181 rfl (by decide) dX4_quietIn_15 (sk_rum isRum.tr) (Nat.le_of_ble_eq_true rfl) (Nat.le_of_eq (Nat.zero_add _)) (Nat.le_of_eq (Nat.zero_add _)) (fun _ _ hM' hT' => c_copyFrom isRum.tr (isRum.of (by omega)) (by omega) hM' hT') ?_
  refine j_aload_n_0 dX4_quietIn_18 ?_
  refine G_X4_30 rfl dX4_quietIn_19 sk_0 sr_0_3 ?_
  refine j_aload_n_0 dX4_quietIn_22 ?_
  refine G_X4_10 rfl dX4_quietIn_23 sk_0 sr_0_0 ?_
  refine j_aload_n_0 dX4_quietIn_26 ?_
  refine G_X4_38 rfl dX4_quietIn_27 sk_0 ?_
  refine j_top (y := V 0 5) (by rw [cpR_out (by omega)]) ?_
  refine C_X4_185 rfl (by decide) dX4_quietIn_30 (sk_rum isRum.tr) (Nat.le_of_ble_eq_true rfl) (Nat.le_of_eq (Nat.zero_add _)) (Nat.le_of_eq (Nat.zero_add _)) (fun _ _ hM' hT' => c_lookAhead isRum.tr (by rw [cpR_out (by omega)]; exact hN) hb hM' hT') ?_
  refine j_istore_n_2 rfl (by decide) dX4_quietIn_33 ?_
  refine j_aload_n_0 dX4_quietIn_34 ?_
  refine G_X4_30 rfl dX4_quietIn_35 sk_0 sr_0_3 ?_
  refine j_aload_n_0 dX4_quietIn_38 ?_
  refine G_X4_10 rfl dX4_quietIn_39 sk_0 sr_0_0 ?_
  refine G_X4_128 rfl dX4_quietIn_42 sk_1 ?_
  refine j_top (y := nI N) (show triV V N j 1 0 = nI N by rw [triV_out (by omega)]; exact hN) ?_
  refine C_X4_188 rfl (by decide) dX4_quietIn_45 (sk_rum isRum.tr) (Nat.le_of_ble_eq_true rfl) (Nat.le_of_eq (Nat.zero_add _)) (Nat.le_of_eq (Nat.zero_add _)) (fun _ _ hM' hT' => c_isQuiet isRum.tr hb hM' hT') ?_
  refine j_if_eq (tgt := 55) dX4_quietIn_48 (by decide) (fun h48 => ?_) (fun h48 => ?_)
  · refine j_iconst (v := -1) dX4_quietIn_55 nc_iconst_m1 ?_
    exact j_iret hM dX4_quietIn_56 rfl (by unfold qtR at hT; rw [if_neg (show ¬ quL (triV V N j) 33 N 0 = true by rw [show quL (triV V N j) 33 N 0 = false from bz_f h48]; decide)] at hT; exact hT)
  · refine j_iload_n_2 dX4_quietIn_51 ?_
    refine j_goto (tgt := 56) dX4_quietIn_52 (by decide) ?_
    exact j_iret hM dX4_quietIn_56 rfl (by unfold qtR at hT; rw [if_pos (show quL (triV V N j) 33 N 0 = true from bz_t h48)] at hT; exact hT)

set_option maxHeartbeats 4000000 in
set_option maxRecDepth 100000 in
theorem e_quietIn_2 {sx : Nat → jv_S} {g : jv_G} {X : jv_X} {T : jv_T} {n : Nat} {V : Nat → Nat → Int32} {L : Nat → Nat → Int64} {k z : Nat} {N K R : Nat} (hC : Ct V N K R) {j : Int32} (hx : j < 0 ∨ nI R ≤ j) (hk : 1 ≤ k) (hz : 6 ≤ z) (hM : jv_M g X T) (hX : ∀ n', n ≤ n' → T (.inr "java/lang/IndexOutOfBoundsException") n' (SH sx) V L) : jv_J g X I_X4_quietIn 0 [some (jv_r g 0), some (.int j), none] [] n (SH sx) V L k z := by
  obtain ⟨hN, hK, hR, hN2, hb, hK4, hR8⟩ := id hC
  refine j_aload_n_0 dX4_quietIn_0 ?_
  refine j_iload_n_1 dX4_quietIn_1 ?_
  exact X_X4_112 (n1 := 0) (sh1 := fun _ => (0, 0, fun _ => none)) (V1 := fun _ _ => 0) (L1 := fun _ _ => 0) rfl (by decide) dX4_quietIn_2 sk_0 (Nat.le_of_ble_eq_true rfl) (show 1 + 0 ≤ k from hk) (show 6 + 0 ≤ z from hz) (fun _ _ hM' hT' => b_needRumour hR (by omega) hx (Nat.le_refl 1) (Nat.le_refl 6) hM' hT') (fun n' hn' => j_out hM rfl (hX n' hn'))

set_option maxHeartbeats 4000000 in
set_option maxRecDepth 100000 in
theorem g_believersWith {sx : Nat → jv_S} {g : jv_G} {X : jv_X} {T : jv_T} {n : Nat} {V : Nat → Nat → Int32} {L : Nat → Nat → Int64} {k z : Nat} {N K R : Nat} (hC : Ct V N K R) {j : Nat} (hj : (j < R)) {f : Nat} (hf : (f < N))  (hM : jv_M g X T) (hT : T (.inl (some (.int (hbL (triD V N j f) 33 N 0 (nI 0))))) n (SH sx) (triD V N j f) L) : jv_J g X I_X4_believersWith 0 [some (jv_r g 0), some (.int (nI j)), some (.int (nI f))] [] n (SH sx) V L k z := by
  obtain ⟨hN, hK, hR, hN2, hb, hK4, hR8⟩ := id hC
  refine j_aload_n_0 dX4_believersWith_0 ?_
  refine j_iload_n_1 dX4_believersWith_1 ?_
  refine C_X4_112 rfl (by decide) dX4_believersWith_2 sk_0 (Nat.le_of_ble_eq_true rfl) (Nat.le_of_eq (Nat.zero_add _)) (Nat.le_of_eq (Nat.zero_add _)) (fun _ _ hM' hT' => c_needRumour hR hj (by omega) hM' hT') ?_
  refine j_aload_n_0 dX4_believersWith_5 ?_
  refine j_iload_n_2 dX4_believersWith_6 ?_
  refine C_X4_49 rfl (by decide) dX4_believersWith_7 sk_0 (Nat.le_of_ble_eq_true rfl) (Nat.le_of_eq (Nat.zero_add _)) (Nat.le_of_eq (Nat.zero_add _)) (fun _ _ hM' hT' => c_needFloor hN hf hb hM' hT') ?_
  refine j_aload_n_0 dX4_believersWith_10 ?_
  refine G_X4_30 rfl dX4_believersWith_11 sk_0 sr_0_3 ?_
  refine j_aload_n_0 dX4_believersWith_14 ?_
  refine G_X4_25 rfl dX4_believersWith_15 sk_0 sr_0_2 ?_
  refine j_iload_n_1 dX4_believersWith_18 ?_
  refine jv_aald (t := 3) (fun _ => rfl) rfl (by decide) (by decide) dX4_believersWith_19 sk_32 sn_32 (by omega) (by decide) (sr_sta (by omega)) ?_
  refine C_X4_181 rfl (by decide) dX4_believersWith_20 (sk_rum isRum.tr) (Nat.le_of_ble_eq_true rfl) (Nat.le_of_eq (Nat.zero_add _)) (Nat.le_of_eq (Nat.zero_add _)) (fun _ _ hM' hT' => c_copyFrom isRum.tr (isRum.of (by omega)) (by omega) hM' hT') ?_
  refine j_aload_n_0 dX4_believersWith_23 ?_
  refine G_X4_30 rfl dX4_believersWith_24 sk_0 sr_0_3 ?_
  refine j_aload_n_0 dX4_believersWith_27 ?_
  refine G_X4_10 rfl dX4_believersWith_28 sk_0 sr_0_0 ?_
  refine j_iload_n_2 dX4_believersWith_31 ?_
  refine j_aload_n_0 dX4_believersWith_32 ?_
  refine G_X4_38 rfl dX4_believersWith_33 sk_0 ?_
  refine j_top (y := V 0 5) (by rw [cpR_out (by omega)]) ?_
  refine C_X4_120 rfl (by decide) dX4_believersWith_36 (sk_rum isRum.tr) (Nat.le_of_ble_eq_true rfl) (Nat.le_of_eq (Nat.zero_add _)) (Nat.le_of_eq (Nat.zero_add _)) (fun _ _ hM' hT' => c_bringDenial isRum.tr (by omega) hM' hT') ?_
  refine j_aload_n_0 dX4_believersWith_39 ?_
  refine G_X4_30 rfl dX4_believersWith_40 sk_0 sr_0_3 ?_
  refine j_aload_n_0 dX4_believersWith_43 ?_
  refine G_X4_10 rfl dX4_believersWith_44 sk_0 sr_0_0 ?_
  refine j_aload_n_0 dX4_believersWith_47 ?_
  refine G_X4_38 rfl dX4_believersWith_48 sk_0 ?_
  refine j_top (y := V 0 5) (by rw [brD_out (by unfold Rout; omega), cpR_out (by omega)]) ?_
  refine C_X4_185 rfl (by decide) dX4_believersWith_51 (sk_rum isRum.tr) (Nat.le_of_ble_eq_true rfl) (Nat.le_of_eq (Nat.zero_add _)) (Nat.le_of_eq (Nat.zero_add _)) (fun _ _ hM' hT' => c_lookAhead isRum.tr (by rw [brD_out (by unfold Rout; omega), cpR_out (by omega)]; exact hN) hb hM' hT') ?_
  refine j_pop rfl dX4_believersWith_54 ?_
  refine j_aload_n_0 dX4_believersWith_55 ?_
  refine G_X4_30 rfl dX4_believersWith_56 sk_0 sr_0_3 ?_
  refine j_aload_n_0 dX4_believersWith_59 ?_
  refine G_X4_10 rfl dX4_believersWith_60 sk_0 sr_0_0 ?_
  refine C_X4_153 rfl (by decide) dX4_believersWith_63 (sk_rum isRum.tr) (Nat.le_of_ble_eq_true rfl) (Nat.le_of_eq (Nat.zero_add _)) (Nat.le_of_eq (Nat.zero_add _)) (fun _ _ hM' hT' => c_headsThatBelieve isRum.tr (show triD V N j f 1 0 = nI N by rw [triD_out (by omega)]; exact hN) hb hM' hT') ?_
  exact j_iret hM dX4_believersWith_66 rfl hT

set_option maxHeartbeats 4000000 in
set_option maxRecDepth 100000 in
theorem e_believersWith_2 {sx : Nat → jv_S} {g : jv_G} {X : jv_X} {T : jv_T} {n : Nat} {V : Nat → Nat → Int32} {L : Nat → Nat → Int64} {k z : Nat} {N K R : Nat} (hC : Ct V N K R) {j : Int32} {f : Int32} (hx : j < 0 ∨ nI R ≤ j) (hk : 1 ≤ k) (hz : 6 ≤ z) (hM : jv_M g X T) (hX : ∀ n', n ≤ n' → T (.inr "java/lang/IndexOutOfBoundsException") n' (SH sx) V L) : jv_J g X I_X4_believersWith 0 [some (jv_r g 0), some (.int j), some (.int f)] [] n (SH sx) V L k z := by
  obtain ⟨hN, hK, hR, hN2, hb, hK4, hR8⟩ := id hC
  refine j_aload_n_0 dX4_believersWith_0 ?_
  refine j_iload_n_1 dX4_believersWith_1 ?_
  exact X_X4_112 (n1 := 0) (sh1 := fun _ => (0, 0, fun _ => none)) (V1 := fun _ _ => 0) (L1 := fun _ _ => 0) rfl (by decide) dX4_believersWith_2 sk_0 (Nat.le_of_ble_eq_true rfl) (show 1 + 0 ≤ k from hk) (show 6 + 0 ≤ z from hz) (fun _ _ hM' hT' => b_needRumour hR (by omega) hx (Nat.le_refl 1) (Nat.le_refl 6) hM' hT') (fun n' hn' => j_out hM rfl (hX n' hn'))

set_option maxHeartbeats 4000000 in
set_option maxRecDepth 100000 in
theorem e_believersWith_7 {sx : Nat → jv_S} {g : jv_G} {X : jv_X} {T : jv_T} {n : Nat} {V : Nat → Nat → Int32} {L : Nat → Nat → Int64} {k z : Nat} {N K R : Nat} (hC : Ct V N K R) {j : Nat} (hj : (j < R)) {f : Int32} (hx : f < 0 ∨ nI N ≤ f) (hk : 1 ≤ k) (hz : 6 ≤ z) (hM : jv_M g X T) (hX : ∀ n', n ≤ n' → T (.inr "java/lang/IndexOutOfBoundsException") n' (SH sx) V L) : jv_J g X I_X4_believersWith 0 [some (jv_r g 0), some (.int (nI j)), some (.int f)] [] n (SH sx) V L k z := by
  obtain ⟨hN, hK, hR, hN2, hb, hK4, hR8⟩ := id hC
  refine j_aload_n_0 dX4_believersWith_0 ?_
  refine j_iload_n_1 dX4_believersWith_1 ?_
  refine C_X4_112 rfl (by decide) dX4_believersWith_2 sk_0 (Nat.le_of_ble_eq_true rfl) (Nat.le_of_eq (Nat.zero_add _)) (Nat.le_of_eq (Nat.zero_add _)) (fun _ _ hM' hT' => c_needRumour hR hj (by omega) hM' hT') ?_
  refine j_aload_n_0 dX4_believersWith_5 ?_
  refine j_iload_n_2 dX4_believersWith_6 ?_
  exact X_X4_49 (n1 := 0) (sh1 := fun _ => (0, 0, fun _ => none)) (V1 := fun _ _ => 0) (L1 := fun _ _ => 0) rfl (by decide) dX4_believersWith_7 sk_0 (Nat.le_of_ble_eq_true rfl) (show 1 + 0 ≤ k from hk) (show 6 + 0 ≤ z from hz) (fun _ _ hM' hT' => b_needFloor hN hb hx (Nat.le_refl 1) (Nat.le_refl 6) hM' hT') (fun n' hn' => j_out hM rfl (hX n' hn'))

theorem triV_Ct {V : Nat → Nat → Int32} {N K R j : Nat} (h : Ct V N K R) : Ct (triV V N j) N K R := h.o (triV_out (by omega)) (triV_out (by omega))
theorem triD_Ct {V : Nat → Nat → Int32} {N K R j f : Nat} (h : Ct V N K R) : Ct (triD V N j f) N K R := h.o (triD_out (by omega)) (triD_out (by omega))
def bdV (N j : Nat) : Nat → Nat → (Nat → Nat → Int32) → (Nat → Nat → Int32)
  | 0, _, V => V
  | m + 1, i, V => bdV N j m (i + 1) (triD V N j i)
def bdB (N j : Nat) : Nat → Nat → (Nat → Nat → Int32) → Nat → Int32 → Nat
  | 0, _, _, b, _ => b
  | m + 1, i, V, b, l => if l ≤ hbL (triD V N j i) 33 N 0 (nI 0) then bdB N j m (i + 1) (triD V N j i) b l else bdB N j m (i + 1) (triD V N j i) i (hbL (triD V N j i) 33 N 0 (nI 0))

set_option maxHeartbeats 4000000 in
set_option maxRecDepth 100000 in
theorem c_bd_loop {sx : Nat → jv_S} {g : jv_G} {X : jv_X} {T : jv_T} {n : Nat} {V : Nat → Nat → Int32} {L : Nat → Nat → Int64} {k z : Nat} {N K R j : Nat} (hj : j < R) (hM : jv_M g X T) : ∀ (m : Nat) (i : Nat) (V : (Nat → Nat → Int32)) (b : Nat) (l : Int32) (v5 : Option Value), Ct V N K R → i ≤ N → N + 1 ≤ i + m → T (.inl (some (.int (nI (bdB N j (N - i) i V b l))))) n (SH sx) (bdV N j (N - i) i V) L → jv_J g X I_X4_bestDenial 17 [some (jv_r g 0), some (.int (nI j)), some (.int (nI b)), some (.int l), some (.int (nI i)), v5] [] n (SH sx) V L k z := by
  intro m
  induction m with
  | zero => intro i V b l v5 hC hi him hT; omega
  | succ m ih =>
  intro i V b l v5 hC hi him hT
  obtain ⟨hN, hK, hR, hN2, hb, hK4, hR8⟩ := id hC
  refine j_iload_4 dX4_bestDenial_17 ?_
  refine j_aload_n_0 dX4_bestDenial_19 ?_
  refine G_X4_10 rfl dX4_bestDenial_20 sk_0 sr_0_0 ?_
  refine G_X4_128 rfl dX4_bestDenial_23 sk_1 ?_
  refine j_top (y := nI N) hN ?_
  refine j_ic_geN (by omega) (by omega) (tgt := 56) dX4_bestDenial_26 (by decide) (fun h26 => ?_) (fun h26 => ?_)
  · refine j_iload_n_2 dX4_bestDenial_56 ?_
    exact j_iret hM dX4_bestDenial_57 rfl (by rw [show N - i = 0 by omega] at hT; exact hT)
  · refine j_aload_n_0 dX4_bestDenial_29 ?_
    refine j_iload_n_1 dX4_bestDenial_30 ?_
    refine j_iload_4 dX4_bestDenial_31 ?_
    refine C_X4_191 rfl (by decide) dX4_bestDenial_33 sk_0 (Nat.le_of_ble_eq_true rfl) (Nat.le_of_eq (Nat.zero_add _)) (Nat.le_of_eq (Nat.zero_add _)) (fun _ _ hM' hT' => g_believersWith hC hj (by omega) hM' hT') ?_
    refine j_istore_5 rfl (by decide) dX4_bestDenial_36 ?_
    refine j_iload_5 dX4_bestDenial_38 ?_
    refine j_iload_n_3 dX4_bestDenial_40 ?_
    refine j_ic_ge (tgt := 50) dX4_bestDenial_41 (by decide) (fun h41 => ?_) (fun h41 => ?_)
    · refine j_inc1_4 rfl (by decide) dX4_bestDenial_50 ?_
      refine j_goto (tgt := 17) dX4_bestDenial_53 (by decide) ?_
      refine ih (i + 1) _ _ _ _ (triD_Ct hC) (by omega) (by omega) ?_
      rw [show N - i = (N - (i + 1)) + 1 by omega] at hT
      unfold bdB bdV at hT
      rw [if_pos h41] at hT
      exact hT
    · refine j_iload_4 dX4_bestDenial_44 ?_
      refine j_istore_n_2 rfl (by decide) dX4_bestDenial_46 ?_
      refine j_iload_5 dX4_bestDenial_47 ?_
      refine j_istore_n_3 rfl (by decide) dX4_bestDenial_49 ?_
      refine j_inc1_4 rfl (by decide) dX4_bestDenial_50 ?_
      refine j_goto (tgt := 17) dX4_bestDenial_53 (by decide) ?_
      refine ih (i + 1) _ _ _ _ (triD_Ct hC) (by omega) (by omega) ?_
      rw [show N - i = (N - (i + 1)) + 1 by omega] at hT
      unfold bdB bdV at hT
      rw [if_neg h41] at hT
      exact hT

set_option maxHeartbeats 4000000 in
set_option maxRecDepth 100000 in
theorem g_bestDenial {sx : Nat → jv_S} {g : jv_G} {X : jv_X} {T : jv_T} {n : Nat} {V : Nat → Nat → Int32} {L : Nat → Nat → Int64} {k z : Nat} {N K R : Nat} (hC : Ct V N K R) {j : Nat} (hj : (j < R))  (hM : jv_M g X T) (hT : T (.inl (some (.int (nI (bdB N j (N - 1) 1 (triD V N j 0) 0 (hbL (triD V N j 0) 33 N 0 (nI 0))))))) n (SH sx) (bdV N j (N - 1) 1 (triD V N j 0)) L) : jv_J g X I_X4_bestDenial 0 [some (jv_r g 0), some (.int (nI j)), none, none, none, none] [] n (SH sx) V L k z := by
  obtain ⟨hN, hK, hR, hN2, hb, hK4, hR8⟩ := id hC
  refine j_aload_n_0 dX4_bestDenial_0 ?_
  refine j_iload_n_1 dX4_bestDenial_1 ?_
  refine C_X4_112 rfl (by decide) dX4_bestDenial_2 sk_0 (Nat.le_of_ble_eq_true rfl) (Nat.le_of_eq (Nat.zero_add _)) (Nat.le_of_eq (Nat.zero_add _)) (fun _ _ hM' hT' => c_needRumour hR hj (by omega) hM' hT') ?_
  refine j_iconst (v := nI 0) dX4_bestDenial_5 nc_iconst_0 ?_
  refine j_istore_n_2 rfl (by decide) dX4_bestDenial_6 ?_
  refine j_aload_n_0 dX4_bestDenial_7 ?_
  refine j_iload_n_1 dX4_bestDenial_8 ?_
  refine j_iconst (v := nI 0) dX4_bestDenial_9 nc_iconst_0 ?_
  refine C_X4_191 rfl (by decide) dX4_bestDenial_10 sk_0 (Nat.le_of_ble_eq_true rfl) (Nat.le_of_eq (Nat.zero_add _)) (Nat.le_of_eq (Nat.zero_add _)) (fun _ _ hM' hT' => g_believersWith hC hj (by omega) hM' hT') ?_
  refine j_istore_n_3 rfl (by decide) dX4_bestDenial_13 ?_
  refine j_iconst (v := nI 1) dX4_bestDenial_14 nc_iconst_1 ?_
  refine j_istore_4 rfl (by decide) dX4_bestDenial_15 ?_
  exact c_bd_loop (V := triD V N j 0) hj hM (N + 1) 1 _ _ _ _ (triD_Ct hC) (by omega) (by omega) hT

set_option maxHeartbeats 4000000 in
set_option maxRecDepth 100000 in
theorem e_bestDenial_2 {sx : Nat → jv_S} {g : jv_G} {X : jv_X} {T : jv_T} {n : Nat} {V : Nat → Nat → Int32} {L : Nat → Nat → Int64} {k z : Nat} {N K R : Nat} (hC : Ct V N K R) {j : Int32} (hx : j < 0 ∨ nI R ≤ j) (hk : 1 ≤ k) (hz : 6 ≤ z) (hM : jv_M g X T) (hX : ∀ n', n ≤ n' → T (.inr "java/lang/IndexOutOfBoundsException") n' (SH sx) V L) : jv_J g X I_X4_bestDenial 0 [some (jv_r g 0), some (.int j), none, none, none, none] [] n (SH sx) V L k z := by
  obtain ⟨hN, hK, hR, hN2, hb, hK4, hR8⟩ := id hC
  refine j_aload_n_0 dX4_bestDenial_0 ?_
  refine j_iload_n_1 dX4_bestDenial_1 ?_
  exact X_X4_112 (n1 := 0) (sh1 := fun _ => (0, 0, fun _ => none)) (V1 := fun _ _ => 0) (L1 := fun _ _ => 0) rfl (by decide) dX4_bestDenial_2 sk_0 (Nat.le_of_ble_eq_true rfl) (show 1 + 0 ≤ k from hk) (show 6 + 0 ≤ z from hz) (fun _ _ hM' hT' => b_needRumour hR (by omega) hx (Nat.le_refl 1) (Nat.le_refl 6) hM' hT') (fun n' hn' => j_out hM rfl (hX n' hn'))

def shuV (V : Nat → Nat → Int32) (N K f : Nat) (b : Int32) : Nat → Nat → Int32 := layV (jv_U V 5 f b) N K
theorem shuV_Ct {V : Nat → Nat → Int32} {N K R f : Nat} {b : Int32} (h : Ct V N K R) : Ct (shuV V N K f b) N K R := h.o (by unfold shuV; rw [layV_out (by omega), jv_U_other (by omega)]) (by unfold shuV; rw [layV_out (by omega), jv_U_other (by omega)])
/-- the stairs at i shut, looked ahead, and opened again -/
def shtV (V : Nat → Nat → Int32) (N K j i : Nat) : Nat → Nat → Int32 := triV (shuV V N K i (nI 0)) N j
def shoV (V : Nat → Nat → Int32) (N K j i : Nat) : Nat → Nat → Int32 := shuV (shtV V N K j i) N K i (nI 1)
def bsL (N K j : Nat) : Nat → Nat → (Nat → Nat → Int32) → Option Nat → Int32 → (Nat → Nat → Int32) × Option Nat
  | 0, _, V, b, _ => (V, b)
  | m + 1, i, V, b, l => if V 5 i = 0 then bsL N K j m (i + 1) V b l else if l ≤ hbL (shtV V N K j i) 33 N 0 (nI 0) then bsL N K j m (i + 1) (shoV V N K j i) b l else bsL N K j m (i + 1) (shoV V N K j i) (some i) (hbL (shtV V N K j i) 33 N 0 (nI 0))
theorem shoV_Ct {V : Nat → Nat → Int32} {N K R j i : Nat} (h : Ct V N K R) : Ct (shoV V N K j i) N K R := shuV_Ct (triV_Ct (shuV_Ct h))

set_option maxHeartbeats 4000000 in
set_option maxRecDepth 100000 in
theorem c_bs_loop {sx : Nat → jv_S} {g : jv_G} {X : jv_X} {T : jv_T} {n : Nat} {V : Nat → Nat → Int32} {L : Nat → Nat → Int64} {k z : Nat} {N K R j : Nat} (hj : j < R) (hM : jv_M g X T) : ∀ (m : Nat) (i : Nat) (V : (Nat → Nat → Int32)) (b : Option Nat) (l : Int32) (v5 : Option Value), Ct V N K R → i ≤ N - 1 → N + 1 ≤ i + m → T (.inl (some (.int (ov (bsL N K j (N - 1 - i) i V b l).2)))) n (SH sx) ((bsL N K j (N - 1 - i) i V b l).1) L → jv_J g X I_X4_bestStairsToShut 16 [some (jv_r g 0), some (.int (nI j)), some (.int (ov b)), some (.int l), some (.int (nI i)), v5] [] n (SH sx) V L k z := by
  intro m
  induction m with
  | zero => intro i V b l v5 hC hi him hT; omega
  | succ m ih =>
  intro i V b l v5 hC hi him hT
  obtain ⟨hN, hK, hR, hN2, hb, hK4, hR8⟩ := id hC
  refine j_iload_4 dX4_bestStairsToShut_16 ?_
  refine j_aload_n_0 dX4_bestStairsToShut_18 ?_
  refine G_X4_10 rfl dX4_bestStairsToShut_19 sk_0 sr_0_0 ?_
  refine G_X4_128 rfl dX4_bestStairsToShut_22 sk_1 ?_
  refine j_top (y := nI N) hN ?_
  refine j_iconst (v := nI 1) dX4_bestStairsToShut_25 nc_iconst_1 ?_
  refine j_isubN (by omega) dX4_bestStairsToShut_26 ?_
  refine j_ic_geN (by omega) (by omega) (tgt := 88) dX4_bestStairsToShut_27 (by decide) (fun h27 => ?_) (fun h27 => ?_)
  · refine j_iload_n_2 dX4_bestStairsToShut_88 ?_
    exact j_iret hM dX4_bestStairsToShut_89 rfl (by rw [show N - 1 - i = 0 by omega] at hT; exact hT)
  · refine j_aload_n_0 dX4_bestStairsToShut_30 ?_
    refine G_X4_10 rfl dX4_bestStairsToShut_31 sk_0 sr_0_0 ?_
    refine G_X4_68 rfl dX4_bestStairsToShut_34 sk_1 sr_1_5 ?_
    refine j_iload_4 dX4_bestStairsToShut_37 ?_
    refine j_bald dX4_bestStairsToShut_39 sk_5 sn_5 (by omega) (by decide) ?_
    refine j_if_eq (tgt := 82) dX4_bestStairsToShut_40 (by decide) (fun h40 => ?_) (fun h40 => ?_)
    · refine j_inc1_4 rfl (by decide) dX4_bestStairsToShut_82 ?_
      refine j_goto (tgt := 16) dX4_bestStairsToShut_85 (by decide) ?_
      refine ih (i + 1) _ b _ _ hC (by omega) (by omega) ?_
      rw [show N - 1 - i = (N - 1 - (i + 1)) + 1 by omega] at hT
      unfold bsL at hT
      rw [if_pos h40] at hT
      exact hT
    · refine j_aload_n_0 dX4_bestStairsToShut_43 ?_
      refine G_X4_10 rfl dX4_bestStairsToShut_44 sk_0 sr_0_0 ?_
      refine j_iload_4 dX4_bestStairsToShut_47 ?_
      refine j_iconst (v := nI 0) dX4_bestStairsToShut_49 nc_iconst_0 ?_
      refine C_X4_72 rfl (by decide) dX4_bestStairsToShut_50 sk_1 (Nat.le_of_ble_eq_true rfl) (Nat.le_of_eq (Nat.zero_add _)) (Nat.le_of_eq (Nat.zero_add _)) (fun _ _ hM' hT' => c_letStairs hN hb hK hK4 (by omega) nI01a hM' hT') ?_
      refine j_aload_n_0 dX4_bestStairsToShut_53 ?_
      refine j_iload_n_1 dX4_bestStairsToShut_54 ?_
      refine C_X4_194 rfl (by decide) dX4_bestStairsToShut_55 sk_0 (Nat.le_of_ble_eq_true rfl) (Nat.le_of_eq (Nat.zero_add _)) (Nat.le_of_eq (Nat.zero_add _)) (fun _ _ hM' hT' => g_believersInTheEnd (shuV_Ct hC) hj hM' hT') ?_
      refine j_istore_5 rfl (by decide) dX4_bestStairsToShut_58 ?_
      refine j_aload_n_0 dX4_bestStairsToShut_60 ?_
      refine G_X4_10 rfl dX4_bestStairsToShut_61 sk_0 sr_0_0 ?_
      refine j_iload_4 dX4_bestStairsToShut_64 ?_
      refine j_iconst (v := nI 1) dX4_bestStairsToShut_66 nc_iconst_1 ?_
      refine C_X4_72 rfl (by decide) dX4_bestStairsToShut_67 sk_1 (Nat.le_of_ble_eq_true rfl) (Nat.le_of_eq (Nat.zero_add _)) (Nat.le_of_eq (Nat.zero_add _)) (fun _ _ hM' hT' => c_letStairs (triV_Ct (j := j) (shuV_Ct (f := i) (b := nI 0) hC)).1 hb (triV_Ct (j := j) (shuV_Ct (f := i) (b := nI 0) hC)).2.1 hK4 (by omega) nI01b hM' hT') ?_
      refine j_iload_5 dX4_bestStairsToShut_70 ?_
      refine j_iload_n_3 dX4_bestStairsToShut_72 ?_
      refine j_ic_ge (tgt := 82) dX4_bestStairsToShut_73 (by decide) (fun h73 => ?_) (fun h73 => ?_)
      · refine j_inc1_4 rfl (by decide) dX4_bestStairsToShut_82 ?_
        refine j_goto (tgt := 16) dX4_bestStairsToShut_85 (by decide) ?_
        refine ih (i + 1) _ b _ _ (shoV_Ct hC) (by omega) (by omega) ?_
        rw [show N - 1 - i = (N - 1 - (i + 1)) + 1 by omega] at hT
        unfold bsL at hT
        rw [if_neg h40, if_pos (show l ≤ hbL (shtV V N K j i) 33 N 0 (nI 0) from h73)] at hT
        exact hT
      · refine j_iload_4 dX4_bestStairsToShut_76 ?_
        refine j_istore_n_2 rfl (by decide) dX4_bestStairsToShut_78 ?_
        refine j_iload_5 dX4_bestStairsToShut_79 ?_
        refine j_istore_n_3 rfl (by decide) dX4_bestStairsToShut_81 ?_
        refine j_inc1_4 rfl (by decide) dX4_bestStairsToShut_82 ?_
        refine j_goto (tgt := 16) dX4_bestStairsToShut_85 (by decide) ?_
        refine ih (i + 1) _ (some i) _ _ (shoV_Ct hC) (by omega) (by omega) ?_
        rw [show N - 1 - i = (N - 1 - (i + 1)) + 1 by omega] at hT
        unfold bsL at hT
        rw [if_neg h40, if_neg (show ¬ l ≤ hbL (shtV V N K j i) 33 N 0 (nI 0) from h73)] at hT
        exact hT

set_option maxHeartbeats 4000000 in
set_option maxRecDepth 100000 in
theorem g_bestStairsToShut {sx : Nat → jv_S} {g : jv_G} {X : jv_X} {T : jv_T} {n : Nat} {V : Nat → Nat → Int32} {L : Nat → Nat → Int64} {k z : Nat} {N K R : Nat} (hC : Ct V N K R) {j : Nat} (hj : (j < R))  (hM : jv_M g X T) (hT : T (.inl (some (.int (ov (bsL N K j (N - 1) 0 (triV V N j) none (hbL (triV V N j) 33 N 0 (nI 0))).2)))) n (SH sx) ((bsL N K j (N - 1) 0 (triV V N j) none (hbL (triV V N j) 33 N 0 (nI 0))).1) L) : jv_J g X I_X4_bestStairsToShut 0 [some (jv_r g 0), some (.int (nI j)), none, none, none, none] [] n (SH sx) V L k z := by
  obtain ⟨hN, hK, hR, hN2, hb, hK4, hR8⟩ := id hC
  refine j_aload_n_0 dX4_bestStairsToShut_0 ?_
  refine j_iload_n_1 dX4_bestStairsToShut_1 ?_
  refine C_X4_112 rfl (by decide) dX4_bestStairsToShut_2 sk_0 (Nat.le_of_ble_eq_true rfl) (Nat.le_of_eq (Nat.zero_add _)) (Nat.le_of_eq (Nat.zero_add _)) (fun _ _ hM' hT' => c_needRumour hR hj (by omega) hM' hT') ?_
  refine j_iconst (v := -1) dX4_bestStairsToShut_5 nc_iconst_m1 ?_
  refine j_istore_n_2 rfl (by decide) dX4_bestStairsToShut_6 ?_
  refine j_aload_n_0 dX4_bestStairsToShut_7 ?_
  refine j_iload_n_1 dX4_bestStairsToShut_8 ?_
  refine C_X4_194 rfl (by decide) dX4_bestStairsToShut_9 sk_0 (Nat.le_of_ble_eq_true rfl) (Nat.le_of_eq (Nat.zero_add _)) (Nat.le_of_eq (Nat.zero_add _)) (fun _ _ hM' hT' => g_believersInTheEnd hC hj hM' hT') ?_
  refine j_istore_n_3 rfl (by decide) dX4_bestStairsToShut_12 ?_
  refine j_iconst (v := nI 0) dX4_bestStairsToShut_13 nc_iconst_0 ?_
  refine j_istore_4 rfl (by decide) dX4_bestStairsToShut_14 ?_
  exact c_bs_loop (V := triV V N j) hj hM (N + 1) 0 _ none _ _ (triV_Ct hC) (by omega) (by omega) hT

set_option maxHeartbeats 4000000 in
set_option maxRecDepth 100000 in
theorem e_bestStairsToShut_2 {sx : Nat → jv_S} {g : jv_G} {X : jv_X} {T : jv_T} {n : Nat} {V : Nat → Nat → Int32} {L : Nat → Nat → Int64} {k z : Nat} {N K R : Nat} (hC : Ct V N K R) {j : Int32} (hx : j < 0 ∨ nI R ≤ j) (hk : 1 ≤ k) (hz : 6 ≤ z) (hM : jv_M g X T) (hX : ∀ n', n ≤ n' → T (.inr "java/lang/IndexOutOfBoundsException") n' (SH sx) V L) : jv_J g X I_X4_bestStairsToShut 0 [some (jv_r g 0), some (.int j), none, none, none, none] [] n (SH sx) V L k z := by
  obtain ⟨hN, hK, hR, hN2, hb, hK4, hR8⟩ := id hC
  refine j_aload_n_0 dX4_bestStairsToShut_0 ?_
  refine j_iload_n_1 dX4_bestStairsToShut_1 ?_
  exact X_X4_112 (n1 := 0) (sh1 := fun _ => (0, 0, fun _ => none)) (V1 := fun _ _ => 0) (L1 := fun _ _ => 0) rfl (by decide) dX4_bestStairsToShut_2 sk_0 (Nat.le_of_ble_eq_true rfl) (show 1 + 0 ≤ k from hk) (show 6 + 0 ≤ z from hz) (fun _ _ hM' hT' => b_needRumour hR (by omega) hx (Nat.le_refl 1) (Nat.le_refl 6) hM' hT') (fun n' hn' => j_out hM rfl (hX n' hn'))
