/-! ===== the class's own questions of arguments ===== -/
theorem jv_bad {x y : Int32} (hx : x < 0 ∨ y ≤ x) (h1 : ¬ x < 0) (h2 : x < y) : False := by
  rcases hx with q | q
  · exact h1 q
  · exact absurd h2 (Int32.not_lt.mpr q)
theorem jv_ix {x : Int32} {N : Nat} (h1 : ¬ x < 0) (h2 : ¬ nI N ≤ x) (hN : N < 2 ^ 31) : ∃ f : Nat, f < N ∧ x = nI f := by
  rcases pk_ix x hN with q | q | q
  · exact absurd q h1
  · exact absurd q h2
  · exact q

set_option maxHeartbeats 4000000 in
set_option maxRecDepth 100000 in
theorem c_needFloor {sx : Nat → jv_S} {g : jv_G} {X : jv_X} {T : jv_T} {n : Nat} {V : Nat → Nat → Int32} {L : Nat → Nat → Int64} {k z : Nat} {f N : Nat} (hN : V 1 0 = nI N) (hf : f < N) (hb : N ≤ 12) (hM : jv_M g X T) (hT : T (.inl none) n (SH sx) V L) : jv_J g X I_X4_needFloor 0 [some (jv_r g 0), some (.int (nI f))] [] n (SH sx) V L k z := by
  refine j_iload_n_1 dX4_needFloor_0 ?_
  refine j_if_lt (tgt := 15) dX4_needFloor_1 (by decide) (fun h1 => ?_) (fun h1 => ?_)
  · exact absurd h1 (nI_pos (by omega))
  · refine j_iload_n_1 dX4_needFloor_4 ?_
    refine j_aload_n_0 dX4_needFloor_5 ?_
    refine G_X4_10 rfl dX4_needFloor_6 sk_0 sr_0_0 ?_
    refine G_X4_128 rfl dX4_needFloor_9 sk_1 ?_
    refine j_top (y := nI N) hN ?_
    refine j_ic_ltN (by omega) (by omega) (tgt := 26) dX4_needFloor_12 (by decide) (fun h12 => ?_) (fun h12 => ?_)
    · exact j_vret hM dX4_needFloor_26 rfl hT
    · exact absurd h12 (by omega)

set_option maxHeartbeats 4000000 in
set_option maxRecDepth 100000 in
theorem b_needFloor {sx : Nat → jv_S} {g : jv_G} {X : jv_X} {T : jv_T} {n : Nat} {V : Nat → Nat → Int32} {L : Nat → Nat → Int64} {k z : Nat} {x : Int32} {N : Nat} (hN : V 1 0 = nI N) (hb : N ≤ 12) (hx : x < 0 ∨ nI (N) ≤ x) (hk : 1 ≤ k) (hz : 6 ≤ z) (hM : jv_M g X T) (hX : ∀ n', n ≤ n' → T (.inr "java/lang/IndexOutOfBoundsException") n' (SH sx) V L) : jv_J g X I_X4_needFloor 0 [some (jv_r g 0), some (.int x)] [] n (SH sx) V L k z := by
  refine j_iload_n_1 dX4_needFloor_0 ?_
  refine j_if_lt (tgt := 15) dX4_needFloor_1 (by decide) (fun h1 => ?_) (fun h1 => ?_)
  · exact T_X4_needFloor hM (Nat.le_of_ble_eq_true rfl) (by omega) (by omega) hX
  · refine j_iload_n_1 dX4_needFloor_4 ?_
    refine j_aload_n_0 dX4_needFloor_5 ?_
    refine G_X4_10 rfl dX4_needFloor_6 sk_0 sr_0_0 ?_
    refine G_X4_128 rfl dX4_needFloor_9 sk_1 ?_
    refine j_top (y := nI N) hN ?_
    refine j_ic_lt (tgt := 26) dX4_needFloor_12 (by decide) (fun h12 => ?_) (fun h12 => ?_)
    · exact (jv_bad hx h1 h12).elim
    · exact T_X4_needFloor hM (Nat.le_of_ble_eq_true rfl) (by omega) (by omega) hX

set_option maxHeartbeats 4000000 in
set_option maxRecDepth 100000 in
theorem c_needLift {sx : Nat → jv_S} {g : jv_G} {X : jv_X} {T : jv_T} {n : Nat} {V : Nat → Nat → Int32} {L : Nat → Nat → Int64} {k z : Nat} {f N : Nat} (hN : V 1 1 = nI N) (hf : f < N) (hb : N ≤ 12) (hM : jv_M g X T) (hT : T (.inl none) n (SH sx) V L) : jv_J g X I_X4_needLift 0 [some (jv_r g 0), some (.int (nI f))] [] n (SH sx) V L k z := by
  refine j_iload_n_1 dX4_needLift_0 ?_
  refine j_if_lt (tgt := 15) dX4_needLift_1 (by decide) (fun h1 => ?_) (fun h1 => ?_)
  · exact absurd h1 (nI_pos (by omega))
  · refine j_iload_n_1 dX4_needLift_4 ?_
    refine j_aload_n_0 dX4_needLift_5 ?_
    refine G_X4_10 rfl dX4_needLift_6 sk_0 sr_0_0 ?_
    refine G_X4_76 rfl dX4_needLift_9 sk_1 ?_
    refine j_top (y := nI N) hN ?_
    refine j_ic_ltN (by omega) (by omega) (tgt := 26) dX4_needLift_12 (by decide) (fun h12 => ?_) (fun h12 => ?_)
    · exact j_vret hM dX4_needLift_26 rfl hT
    · exact absurd h12 (by omega)

set_option maxHeartbeats 4000000 in
set_option maxRecDepth 100000 in
theorem b_needLift {sx : Nat → jv_S} {g : jv_G} {X : jv_X} {T : jv_T} {n : Nat} {V : Nat → Nat → Int32} {L : Nat → Nat → Int64} {k z : Nat} {x : Int32} {N : Nat} (hN : V 1 1 = nI N) (hb : N ≤ 12) (hx : x < 0 ∨ nI (N) ≤ x) (hk : 1 ≤ k) (hz : 6 ≤ z) (hM : jv_M g X T) (hX : ∀ n', n ≤ n' → T (.inr "java/lang/IndexOutOfBoundsException") n' (SH sx) V L) : jv_J g X I_X4_needLift 0 [some (jv_r g 0), some (.int x)] [] n (SH sx) V L k z := by
  refine j_iload_n_1 dX4_needLift_0 ?_
  refine j_if_lt (tgt := 15) dX4_needLift_1 (by decide) (fun h1 => ?_) (fun h1 => ?_)
  · exact T_X4_needLift hM (Nat.le_of_ble_eq_true rfl) (by omega) (by omega) hX
  · refine j_iload_n_1 dX4_needLift_4 ?_
    refine j_aload_n_0 dX4_needLift_5 ?_
    refine G_X4_10 rfl dX4_needLift_6 sk_0 sr_0_0 ?_
    refine G_X4_76 rfl dX4_needLift_9 sk_1 ?_
    refine j_top (y := nI N) hN ?_
    refine j_ic_lt (tgt := 26) dX4_needLift_12 (by decide) (fun h12 => ?_) (fun h12 => ?_)
    · exact (jv_bad hx h1 h12).elim
    · exact T_X4_needLift hM (Nat.le_of_ble_eq_true rfl) (by omega) (by omega) hX

set_option maxHeartbeats 4000000 in
set_option maxRecDepth 100000 in
theorem c_needRumour {sx : Nat → jv_S} {g : jv_G} {X : jv_X} {T : jv_T} {n : Nat} {V : Nat → Nat → Int32} {L : Nat → Nat → Int64} {k z : Nat} {f N : Nat} (hN : V 0 4 = nI N) (hf : f < N) (hb : N ≤ 12) (hM : jv_M g X T) (hT : T (.inl none) n (SH sx) V L) : jv_J g X I_X4_needRumour 0 [some (jv_r g 0), some (.int (nI f))] [] n (SH sx) V L k z := by
  refine j_iload_n_1 dX4_needRumour_0 ?_
  refine j_if_lt (tgt := 12) dX4_needRumour_1 (by decide) (fun h1 => ?_) (fun h1 => ?_)
  · exact absurd h1 (nI_pos (by omega))
  · refine j_iload_n_1 dX4_needRumour_4 ?_
    refine j_aload_n_0 dX4_needRumour_5 ?_
    refine G_X4_34 rfl dX4_needRumour_6 sk_0 ?_
    refine j_top (y := nI N) hN ?_
    refine j_ic_ltN (by omega) (by omega) (tgt := 23) dX4_needRumour_9 (by decide) (fun h9 => ?_) (fun h9 => ?_)
    · exact j_vret hM dX4_needRumour_23 rfl hT
    · exact absurd h9 (by omega)

set_option maxHeartbeats 4000000 in
set_option maxRecDepth 100000 in
theorem b_needRumour {sx : Nat → jv_S} {g : jv_G} {X : jv_X} {T : jv_T} {n : Nat} {V : Nat → Nat → Int32} {L : Nat → Nat → Int64} {k z : Nat} {x : Int32} {N : Nat} (hN : V 0 4 = nI N) (hb : N ≤ 12) (hx : x < 0 ∨ nI (N) ≤ x) (hk : 1 ≤ k) (hz : 6 ≤ z) (hM : jv_M g X T) (hX : ∀ n', n ≤ n' → T (.inr "java/lang/IndexOutOfBoundsException") n' (SH sx) V L) : jv_J g X I_X4_needRumour 0 [some (jv_r g 0), some (.int x)] [] n (SH sx) V L k z := by
  refine j_iload_n_1 dX4_needRumour_0 ?_
  refine j_if_lt (tgt := 12) dX4_needRumour_1 (by decide) (fun h1 => ?_) (fun h1 => ?_)
  · exact T_X4_needRumour hM (Nat.le_of_ble_eq_true rfl) (by omega) (by omega) hX
  · refine j_iload_n_1 dX4_needRumour_4 ?_
    refine j_aload_n_0 dX4_needRumour_5 ?_
    refine G_X4_34 rfl dX4_needRumour_6 sk_0 ?_
    refine j_top (y := nI N) hN ?_
    refine j_ic_lt (tgt := 23) dX4_needRumour_9 (by decide) (fun h9 => ?_) (fun h9 => ?_)
    · exact (jv_bad hx h1 h9).elim
    · exact T_X4_needRumour hM (Nat.le_of_ble_eq_true rfl) (by omega) (by omega) hX

set_option maxHeartbeats 4000000 in
set_option maxRecDepth 100000 in
theorem c_needStairs {sx : Nat → jv_S} {g : jv_G} {X : jv_X} {T : jv_T} {n : Nat} {V : Nat → Nat → Int32} {L : Nat → Nat → Int64} {k z : Nat} {f N : Nat} (hN : V 1 0 = nI N) (hf : f + 1 < N) (hb : N ≤ 12) (hM : jv_M g X T) (hT : T (.inl none) n (SH sx) V L) : jv_J g X I_X4_needStairs 0 [some (jv_r g 0), some (.int (nI f))] [] n (SH sx) V L k z := by
  refine j_iload_n_1 dX4_needStairs_0 ?_
  refine j_if_lt (tgt := 17) dX4_needStairs_1 (by decide) (fun h1 => ?_) (fun h1 => ?_)
  · exact absurd h1 (nI_pos (by omega))
  · refine j_iload_n_1 dX4_needStairs_4 ?_
    refine j_aload_n_0 dX4_needStairs_5 ?_
    refine G_X4_10 rfl dX4_needStairs_6 sk_0 sr_0_0 ?_
    refine G_X4_128 rfl dX4_needStairs_9 sk_1 ?_
    refine j_top (y := nI N) hN ?_
    refine j_iconst (v := nI 1) dX4_needStairs_12 nc_iconst_1 ?_
    refine j_isubN (by omega) dX4_needStairs_13 ?_
    refine j_ic_ltN (by omega) (by omega) (tgt := 28) dX4_needStairs_14 (by decide) (fun h14 => ?_) (fun h14 => ?_)
    · exact j_vret hM dX4_needStairs_28 rfl hT
    · exact absurd h14 (by omega)

set_option maxHeartbeats 4000000 in
set_option maxRecDepth 100000 in
theorem b_needStairs {sx : Nat → jv_S} {g : jv_G} {X : jv_X} {T : jv_T} {n : Nat} {V : Nat → Nat → Int32} {L : Nat → Nat → Int64} {k z : Nat} {x : Int32} {N : Nat} (hN : V 1 0 = nI N) (h1N : 1 ≤ N) (hb : N ≤ 12) (hx : x < 0 ∨ nI (N - 1) ≤ x) (hk : 1 ≤ k) (hz : 6 ≤ z) (hM : jv_M g X T) (hX : ∀ n', n ≤ n' → T (.inr "java/lang/IndexOutOfBoundsException") n' (SH sx) V L) : jv_J g X I_X4_needStairs 0 [some (jv_r g 0), some (.int x)] [] n (SH sx) V L k z := by
  refine j_iload_n_1 dX4_needStairs_0 ?_
  refine j_if_lt (tgt := 17) dX4_needStairs_1 (by decide) (fun h1 => ?_) (fun h1 => ?_)
  · exact T_X4_needStairs hM (Nat.le_of_ble_eq_true rfl) (by omega) (by omega) hX
  · refine j_iload_n_1 dX4_needStairs_4 ?_
    refine j_aload_n_0 dX4_needStairs_5 ?_
    refine G_X4_10 rfl dX4_needStairs_6 sk_0 sr_0_0 ?_
    refine G_X4_128 rfl dX4_needStairs_9 sk_1 ?_
    refine j_top (y := nI N) hN ?_
    refine j_iconst (v := nI 1) dX4_needStairs_12 nc_iconst_1 ?_
    refine j_isubN (by omega) dX4_needStairs_13 ?_
    refine j_ic_lt (tgt := 28) dX4_needStairs_14 (by decide) (fun h14 => ?_) (fun h14 => ?_)
    · exact (jv_bad hx h1 h14).elim
    · exact T_X4_needStairs hM (Nat.le_of_ble_eq_true rfl) (by omega) (by omega) hX

set_option maxHeartbeats 4000000 in
set_option maxRecDepth 100000 in
theorem c_needArgument {sx : Nat → jv_S} {g : jv_G} {X : jv_X} {T : jv_T} {n : Nat} {V : Nat → Nat → Int32} {L : Nat → Nat → Int64} {k z : Nat} {x a b : Int32} (hA : ¬ x < a) (hB : x ≤ b) (hM : jv_M g X T) (hT : T (.inl none) n (SH sx) V L) : jv_J g X I_X4_needArgument 0 [some (.int x), some (.int a), some (.int b)] [] n (SH sx) V L k z := by
  refine j_iload_n_0 dX4_needArgument_0 ?_
  refine j_iload_n_1 dX4_needArgument_1 ?_
  refine j_ic_lt (tgt := 10) dX4_needArgument_2 (by decide) (fun h2 => ?_) (fun h2 => ?_)
  · exact absurd h2 hA
  · refine j_iload_n_0 dX4_needArgument_5 ?_
    refine j_iload_n_2 dX4_needArgument_6 ?_
    refine j_ic_le (tgt := 21) dX4_needArgument_7 (by decide) (fun h7 => ?_) (fun h7 => ?_)
    · exact j_vret hM dX4_needArgument_21 rfl hT
    · exact absurd hB h7

set_option maxHeartbeats 4000000 in
set_option maxRecDepth 100000 in
theorem b_needArgument {sx : Nat → jv_S} {g : jv_G} {X : jv_X} {T : jv_T} {n : Nat} {V : Nat → Nat → Int32} {L : Nat → Nat → Int64} {k z : Nat} {x a b : Int32} (hx : x < a ∨ b < x) (hk : 1 ≤ k) (hz : 6 ≤ z) (hM : jv_M g X T) (hX : ∀ n', n ≤ n' → T (.inr "java/lang/IllegalArgumentException") n' (SH sx) V L) : jv_J g X I_X4_needArgument 0 [some (.int x), some (.int a), some (.int b)] [] n (SH sx) V L k z := by
  refine j_iload_n_0 dX4_needArgument_0 ?_
  refine j_iload_n_1 dX4_needArgument_1 ?_
  refine j_ic_lt (tgt := 10) dX4_needArgument_2 (by decide) (fun h2 => ?_) (fun h2 => ?_)
  · exact T_X4_needArgument hM (Nat.le_of_ble_eq_true rfl) (by omega) (by omega) hX
  · refine j_iload_n_0 dX4_needArgument_5 ?_
    refine j_iload_n_2 dX4_needArgument_6 ?_
    refine j_ic_le (tgt := 21) dX4_needArgument_7 (by decide) (fun h7 => ?_) (fun h7 => ?_)
    · exact (hx.elim h2 (fun q => absurd h7 (Int32.not_le.mpr q))).elim
    · exact T_X4_needArgument hM (Nat.le_of_ble_eq_true rfl) (by omega) (by omega) hX

/-! ===== lifts ===== -/
def jv_fill (V : Nat → Nat → Int32) (p n : Nat) (f : Nat → Int32) : Nat → Nat → Int32 := fun q j => if q = p ∧ j < n then f j else V q j
theorem jv_fill_0 (V : Nat → Nat → Int32) (p : Nat) (f : Nat → Int32) : jv_fill V p 0 f = V := by
  funext q j
  unfold jv_fill
  rw [if_neg (by omega)]
theorem jv_fill_s {V : Nat → Nat → Int32} {p n : Nat} {f : Nat → Int32} {x : Int32} (h : x = f n) : jv_U (jv_fill V p n f) p n x = jv_fill V p (n + 1) f := by
  subst h
  funext q j
  unfold jv_U jv_fill
  by_cases h1 : q = p
  · by_cases h2 : j = n
    · subst h1; subst h2
      simp
    · simp only [h1, h2, if_true, if_false, true_and]
      by_cases h3 : j < n
      · rw [if_pos h3, if_pos (by omega)]
      · rw [if_neg h3, if_neg (by omega)]
  · simp [h1]
theorem jv_fill_ne {V : Nat → Nat → Int32} {p n q j : Nat} {f : Nat → Int32} (h : q ≠ p) : jv_fill V p n f q j = V q j := by
  unfold jv_fill
  rw [if_neg (fun c => h c.1)]
theorem jv_fill_in {V : Nat → Nat → Int32} {p n j : Nat} {f : Nat → Int32} (h : j < n) : jv_fill V p n f p j = f j := by
  unfold jv_fill
  rw [if_pos ⟨rfl, h⟩]
theorem jv_fill_out {V : Nat → Nat → Int32} {p n j : Nat} {f : Nat → Int32} (h : n ≤ j) : jv_fill V p n f p j = V p j := by
  unfold jv_fill
  rw [if_neg (by omega)]
/-- the floor is one of the lift's -/
def stp (lo hi ev : Nat) (f : Nat) : Int32 := if lo ≤ f ∧ f ≤ hi ∧ (f - lo) % ev = 0 then nI 1 else nI 0
/-- what the next stop is, as the loop has it before floor i -/
def nxt (lo hi ev i nx : Nat) : Prop := (i ≤ nx ∧ lo ≤ nx ∧ (nx - lo) % ev = 0 ∧ ∀ f, i ≤ f → f < nx → ¬ (lo ≤ f ∧ (f - lo) % ev = 0)) ∨ (hi < nx ∧ nx < i)
theorem nxt_0 (lo hi ev : Nat) : nxt lo hi ev 0 lo := Or.inl ⟨Nat.zero_le _, Nat.le_refl _, by simp, fun f _ h c => by omega⟩
theorem nxt_yes {lo hi ev i nx : Nat} (h : nxt lo hi ev i nx) (e : i = nx) (hh : i ≤ hi) : stp lo hi ev i = nI 1 := by
  rcases h with ⟨h1, h2, h3, h4⟩ | ⟨h1, h2⟩
  · unfold stp
    rw [if_pos ⟨by omega, hh, by rw [e]; exact h3⟩]
  · omega
theorem nxt_no {lo hi ev i nx : Nat} (h : nxt lo hi ev i nx) (e : ¬ i = nx) : stp lo hi ev i = nI 0 := by
  rcases h with ⟨h1, h2, h3, h4⟩ | ⟨h1, h2⟩
  · unfold stp
    rw [if_neg (fun c => h4 i (Nat.le_refl _) (by omega) ⟨c.1, c.2.2⟩)]
  · unfold stp
    rw [if_neg (fun c => by omega)]
theorem nxt_no2 {lo hi ev i : Nat} (e : ¬ i ≤ hi) : stp lo hi ev i = nI 0 := by
  unfold stp
  rw [if_neg (fun c => e c.2.1)]
theorem nxt_go {lo hi ev i nx : Nat} (he : 1 ≤ ev) (h : nxt lo hi ev i nx) (e : i = nx) (hh : i ≤ hi) : nxt lo hi ev (i + 1) (i + ev) := by
  rcases h with ⟨h1, h2, h3, h4⟩ | ⟨h1, h2⟩
  · refine Or.inl ⟨by omega, by omega, ?_, fun f f1 f2 c => ?_⟩
    · have : i + ev - lo = (nx - lo) + ev := by omega
      rw [this, Nat.add_mod_right]
      exact h3
    · have e1 : f - lo = (f - i) + (nx - lo) := by omega
      have h9 := c.2
      rw [e1, Nat.add_mod, h3, Nat.add_zero, Nat.mod_mod] at h9
      rw [Nat.mod_eq_of_lt (by omega)] at h9
      omega
  · omega
theorem nxt_keep {lo hi ev i nx : Nat} (h : nxt lo hi ev i nx) (e : ¬ (i = nx ∧ i ≤ hi)) : nxt lo hi ev (i + 1) nx := by
  rcases h with ⟨h1, h2, h3, h4⟩ | ⟨h1, h2⟩
  · by_cases e1 : i = nx
    · exact Or.inr ⟨by omega, by omega⟩
    · exact Or.inl ⟨by omega, h2, h3, fun f f1 f2 => h4 f (by omega) f2⟩
  · exact Or.inr ⟨h1, by omega⟩

set_option maxHeartbeats 4000000 in
set_option maxRecDepth 100000 in
theorem c_set_loop {sx : Nat → jv_S} {g : jv_G} {X : jv_X} {T : jv_T} {n : Nat} {V : Nat → Nat → Int32} {L : Nat → Nat → Int64} {k z : Nat} {q lo hi ev : Nat} {w : Int32} (hq : isLif q) (hl : lo < hi) (hh : hi < 12) (he : 1 ≤ ev) (h3 : ev ≤ 12) (hM : jv_M g X T) : ∀ (m i nx : Nat) , i ≤ 12 → 13 ≤ i + m → nx ≤ 24 → nxt lo hi ev i nx → T (.inl none) n (SH sx) (jv_fill V (q + 1) 12 (stp lo hi ev)) L → jv_J g X I_X0_set 17 [some (jv_r g q), some (.int (nI lo)), some (.int (nI hi)), some (.int (nI ev)), some (.int w), some (.int (nI nx)), some (.int (nI i))] [] n (SH sx) (jv_fill V (q + 1) i (stp lo hi ev)) L k z := by
  intro m
  induction m with
  | zero => intro i nx h1 h2; omega
  | succ m ih =>
  intro i nx hi12 him hnx24 hnx hT
  refine j_iload_6 dX0_set_17 ?_
  refine j_bipush (v := nI 12) dX0_set_19 nc_bipush_12 ?_
  refine j_ic_geN (by omega) (by omega) (tgt := 71) dX0_set_21 (by decide) (fun h21 => ?_) (fun h21 => ?_)
  · have e12 : i = 12 := by omega
    subst e12
    exact j_vret hM dX0_set_71 rfl hT
  · refine j_aload_n_0 dX0_set_24 ?_
    refine G_X0_19 rfl dX0_set_25 (sk_lif hq) (sr_lis hq) ?_
    refine j_iload_6 dX0_set_28 ?_
    refine j_iload_6 dX0_set_30 ?_
    refine j_iload_5 dX0_set_32 ?_
    refine j_ic_neN (by omega) (by omega) (tgt := 47) dX0_set_34 (by decide) (fun h34 => ?_) (fun h34 => ?_)
    · refine j_iconst (v := nI 0) dX0_set_47 nc_iconst_0 ?_
      refine j_bast dX0_set_48 (jv_b01 (by first | exact Or.inl rfl | exact Or.inr rfl | assumption)) (sk_lis hq) (sn_lis hq) (by omega) (by decide) ?_
      refine j_mem (V' := jv_fill V (q + 1) (i + 1) (stp lo hi ev)) (jv_fill_s (nxt_no hnx h34).symm) ?_
      refine j_aload_n_0 dX0_set_49 ?_
      refine G_X0_19 rfl dX0_set_50 (sk_lif hq) (sr_lis hq) ?_
      refine j_iload_6 dX0_set_53 ?_
      refine j_bald dX0_set_55 (sk_lis hq) (sn_lis hq) (by omega) (by decide) ?_
      refine j_top (y := nI 0) (by rw [jv_fill_in (by omega)]; exact nxt_no hnx h34) ?_
      refine j_if_eq (tgt := 65) dX0_set_56 (by decide) (fun h56 => ?_) (fun h56 => ?_)
      · refine j_inc1_6 rfl (by decide) dX0_set_65 ?_
        refine j_goto (tgt := 17) dX0_set_68 (by decide) ?_
        exact ih (i + 1) nx (by omega) (by omega) (by omega) (nxt_keep hnx (by omega)) hT
      · exact absurd nI_0 h56
    · refine j_iload_6 dX0_set_37 ?_
      refine j_iload_n_2 dX0_set_39 ?_
      refine j_ic_gtN (by omega) (by omega) (tgt := 47) dX0_set_40 (by decide) (fun h40 => ?_) (fun h40 => ?_)
      · refine j_iconst (v := nI 0) dX0_set_47 nc_iconst_0 ?_
        refine j_bast dX0_set_48 (jv_b01 (by first | exact Or.inl rfl | exact Or.inr rfl | assumption)) (sk_lis hq) (sn_lis hq) (by omega) (by decide) ?_
        refine j_mem (V' := jv_fill V (q + 1) (i + 1) (stp lo hi ev)) (jv_fill_s (nxt_no2 (by omega)).symm) ?_
        refine j_aload_n_0 dX0_set_49 ?_
        refine G_X0_19 rfl dX0_set_50 (sk_lif hq) (sr_lis hq) ?_
        refine j_iload_6 dX0_set_53 ?_
        refine j_bald dX0_set_55 (sk_lis hq) (sn_lis hq) (by omega) (by decide) ?_
        refine j_top (y := nI 0) (by rw [jv_fill_in (by omega)]; exact nxt_no2 (by omega)) ?_
        refine j_if_eq (tgt := 65) dX0_set_56 (by decide) (fun h56 => ?_) (fun h56 => ?_)
        · refine j_inc1_6 rfl (by decide) dX0_set_65 ?_
          refine j_goto (tgt := 17) dX0_set_68 (by decide) ?_
          exact ih (i + 1) nx (by omega) (by omega) (by omega) (nxt_keep hnx (by omega)) hT
        · exact absurd nI_0 h56
      · refine j_iconst (v := nI 1) dX0_set_43 nc_iconst_1 ?_
        refine j_goto (tgt := 48) dX0_set_44 (by decide) ?_
        refine j_bast dX0_set_48 (jv_b01 (by first | exact Or.inl rfl | exact Or.inr rfl | assumption)) (sk_lis hq) (sn_lis hq) (by omega) (by decide) ?_
        refine j_mem (V' := jv_fill V (q + 1) (i + 1) (stp lo hi ev)) (jv_fill_s (nxt_yes hnx h34 h40).symm) ?_
        refine j_aload_n_0 dX0_set_49 ?_
        refine G_X0_19 rfl dX0_set_50 (sk_lif hq) (sr_lis hq) ?_
        refine j_iload_6 dX0_set_53 ?_
        refine j_bald dX0_set_55 (sk_lis hq) (sn_lis hq) (by omega) (by decide) ?_
        refine j_top (y := nI 1) (by rw [jv_fill_in (by omega)]; exact nxt_yes hnx h34 h40) ?_
        refine j_if_eq (tgt := 65) dX0_set_56 (by decide) (fun h56 => ?_) (fun h56 => ?_)
        · exact absurd h56 (by decide +kernel)
        · refine j_iload_6 dX0_set_59 ?_
          refine j_iload_n_3 dX0_set_61 ?_
          refine j_iaddN dX0_set_62 ?_
          refine j_istore_5 rfl (by decide) dX0_set_63 ?_
          refine j_inc1_6 rfl (by decide) dX0_set_65 ?_
          refine j_goto (tgt := 17) dX0_set_68 (by decide) ?_
          exact ih (i + 1) (i + ev) (by omega) (by omega) (by omega) (nxt_go he hnx h34 h40) hT

set_option maxHeartbeats 4000000 in
set_option maxRecDepth 100000 in
theorem c_set {sx : Nat → jv_S} {g : jv_G} {X : jv_X} {T : jv_T} {n : Nat} {V : Nat → Nat → Int32} {L : Nat → Nat → Int64} {k z : Nat} {q lo hi ev : Nat} {w : Int32} (hq : isLif q) (hl : lo < hi) (hh : hi < 12) (he : 1 ≤ ev) (h3 : ev ≤ 12) (hM : jv_M g X T) (hT : T (.inl none) n (SH sx) (jv_fill (jv_U (jv_U V q 0 (nI 1)) q 1 w) (q + 1) 12 (stp lo hi ev)) L) : jv_J g X I_X0_set 0 [some (jv_r g q), some (.int (nI lo)), some (.int (nI hi)), some (.int (nI ev)), some (.int w), none, none] [] n (SH sx) V L k z := by
  refine j_aload_n_0 dX0_set_0 ?_
  refine j_iconst (v := nI 1) dX0_set_1 nc_iconst_1 ?_
  refine P_X0_9 rfl (by first | exact Or.inl rfl | exact Or.inr rfl | assumption) dX0_set_2 (sk_lif hq) ?_
  refine j_aload_n_0 dX0_set_5 ?_
  refine j_iload_4 dX0_set_6 ?_
  refine P_X0_15 rfl dX0_set_8 (sk_lif hq) ?_
  refine j_iload_n_1 dX0_set_11 ?_
  refine j_istore_5 rfl (by decide) dX0_set_12 ?_
  refine j_iconst (v := nI 0) dX0_set_14 nc_iconst_0 ?_
  refine j_istore_6 rfl (by decide) dX0_set_15 ?_
  rw [← jv_fill_0 (jv_U (jv_U V q 0 (nI 1)) q 1 w) (q + 1) (stp lo hi ev)]
  exact c_set_loop hq hl hh he h3 hM 13 0 lo (by omega) (by omega) (by omega) (nxt_0 lo hi ev) hT

/-- the hours of the lift at q between two floors, -1 if it doesn't lead there -/
def hrs (V : Nat → Nat → Int32) (q low high : Nat) : Int32 := if ¬ V q 0 = 0 ∧ ¬ V (q + 1) low = 0 ∧ ¬ V (q + 1) high = 0 then V q 1 + nI ((high - low) / 2) else -1

set_option maxHeartbeats 4000000 in
set_option maxRecDepth 100000 in
theorem c_hoursBetween {sx : Nat → jv_S} {g : jv_G} {X : jv_X} {T : jv_T} {n : Nat} {V : Nat → Nat → Int32} {L : Nat → Nat → Int64} {k z : Nat} {q low high : Nat} (hq : isLif q) (h1 : low < high) (h2 : high < 12) (hM : jv_M g X T) (hT : T (.inl (some (.int (hrs V q low high)))) n (SH sx) V L) : jv_J g X I_X0_hoursBetween 0 [some (jv_r g q), some (.int (nI low)), some (.int (nI high)), none] [] n (SH sx) V L k z := by
  refine j_aload_n_0 dX0_hoursBetween_0 ?_
  refine G_X0_9 rfl dX0_hoursBetween_1 (sk_lif hq) ?_
  refine j_if_eq (tgt := 29) dX0_hoursBetween_4 (by decide) (fun h4 => ?_) (fun h4 => ?_)
  · refine j_iconst (v := nI 0) dX0_hoursBetween_29 nc_iconst_0 ?_
    refine j_istore_n_3 rfl (by decide) dX0_hoursBetween_30 ?_
    refine j_iload_n_3 dX0_hoursBetween_31 ?_
    refine j_if_eq (tgt := 48) dX0_hoursBetween_32 (by decide) (fun h32 => ?_) (fun h32 => ?_)
    · refine j_iconst (v := -1) dX0_hoursBetween_48 nc_iconst_m1 ?_
      exact j_iret hM dX0_hoursBetween_49 rfl (by simpa [hrs, h4, h32] using hT)
    · exact absurd nI_0 h32
  · refine j_aload_n_0 dX0_hoursBetween_7 ?_
    refine G_X0_19 rfl dX0_hoursBetween_8 (sk_lif hq) (sr_lis hq) ?_
    refine j_iload_n_1 dX0_hoursBetween_11 ?_
    refine j_bald dX0_hoursBetween_12 (sk_lis hq) (sn_lis hq) (by omega) (by decide) ?_
    refine j_if_eq (tgt := 29) dX0_hoursBetween_13 (by decide) (fun h13 => ?_) (fun h13 => ?_)
    · refine j_iconst (v := nI 0) dX0_hoursBetween_29 nc_iconst_0 ?_
      refine j_istore_n_3 rfl (by decide) dX0_hoursBetween_30 ?_
      refine j_iload_n_3 dX0_hoursBetween_31 ?_
      refine j_if_eq (tgt := 48) dX0_hoursBetween_32 (by decide) (fun h32 => ?_) (fun h32 => ?_)
      · refine j_iconst (v := -1) dX0_hoursBetween_48 nc_iconst_m1 ?_
        exact j_iret hM dX0_hoursBetween_49 rfl (by simpa [hrs, h4, h13, h32] using hT)
      · exact absurd nI_0 h32
    · refine j_aload_n_0 dX0_hoursBetween_16 ?_
      refine G_X0_19 rfl dX0_hoursBetween_17 (sk_lif hq) (sr_lis hq) ?_
      refine j_iload_n_2 dX0_hoursBetween_20 ?_
      refine j_bald dX0_hoursBetween_21 (sk_lis hq) (sn_lis hq) (by omega) (by decide) ?_
      refine j_if_eq (tgt := 29) dX0_hoursBetween_22 (by decide) (fun h22 => ?_) (fun h22 => ?_)
      · refine j_iconst (v := nI 0) dX0_hoursBetween_29 nc_iconst_0 ?_
        refine j_istore_n_3 rfl (by decide) dX0_hoursBetween_30 ?_
        refine j_iload_n_3 dX0_hoursBetween_31 ?_
        refine j_if_eq (tgt := 48) dX0_hoursBetween_32 (by decide) (fun h32 => ?_) (fun h32 => ?_)
        · refine j_iconst (v := -1) dX0_hoursBetween_48 nc_iconst_m1 ?_
          exact j_iret hM dX0_hoursBetween_49 rfl (by simpa [hrs, h4, h13, h22, h32] using hT)
        · exact absurd nI_0 h32
      · refine j_iconst (v := nI 1) dX0_hoursBetween_25 nc_iconst_1 ?_
        refine j_goto (tgt := 30) dX0_hoursBetween_26 (by decide) ?_
        refine j_istore_n_3 rfl (by decide) dX0_hoursBetween_30 ?_
        refine j_iload_n_3 dX0_hoursBetween_31 ?_
        refine j_if_eq (tgt := 48) dX0_hoursBetween_32 (by decide) (fun h32 => ?_) (fun h32 => ?_)
        · exact absurd h32 (by decide +kernel)
        · refine j_aload_n_0 dX0_hoursBetween_35 ?_
          refine G_X0_15 rfl dX0_hoursBetween_36 (sk_lif hq) ?_
          refine j_iload_n_2 dX0_hoursBetween_39 ?_
          refine j_iload_n_1 dX0_hoursBetween_40 ?_
          refine j_isubN (by omega) dX0_hoursBetween_41 ?_
          refine j_iconst (v := nI 2) dX0_hoursBetween_42 nc_iconst_2 ?_
          refine j_idiv (by decide +kernel) dX0_hoursBetween_43 ?_
          refine j_top (y := nI ((high - low) / 2)) (pk_div (by omega) (by decide) (by decide)) ?_
          refine j_iadd dX0_hoursBetween_44 ?_
          refine j_goto (tgt := 49) dX0_hoursBetween_45 (by decide) ?_
          exact j_iret hM dX0_hoursBetween_49 rfl (by simpa [hrs, h4, h13, h22, h32] using hT)
