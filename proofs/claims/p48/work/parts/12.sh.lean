/-! ===== the shapes as the constructors leave them; reads behind writes; rows of places ===== -/
def SH0 (p : Nat) : jv_S := match p with
  | 0 => (5, 0, fun k => match k with
    | 0 => some 1
    | 1 => some 28
    | 2 => some 32
    | 3 => some 33
    | _ => none)
  | 1 => (3, 0, fun k => if 2 ≤ k ∧ k ≤ 7 then some k else none)
  | 2 => (10, 12, fun _ => none)
  | 3 => (10, 12, fun _ => none)
  | 4 => (10, 12, fun _ => none)
  | 5 => (11, 12, fun _ => none)
  | 6 => (14, 4, fun k => if k < 4 then some (20 + 2 * k) else none)
  | 7 => (15, 12, fun k => if k < 12 then some (8 + k) else none)
  | _ => (0, 0, fun _ => none)
def SH1 (p : Nat) : jv_S := match p with
  | 28 => (4, 0, fun k => if k < 3 then some (29 + k) else none)
  | 29 => (10, 12, fun _ => none)
  | 30 => (10, 12, fun _ => none)
  | 31 => (11, 12, fun _ => none)
  | 32 => (13, 8, fun k => if k < 8 then some (43 + 10 * k) else none)
  | _ => (0, 0, fun _ => none)
/-- the shapes of the class; beyond it as sx says -/
def SH (sx : Nat → jv_S) (p : Nat) : jv_S :=
  if p < 8 then SH0 p
  else if p < 20 then (10, 12, fun _ => none)
  else if p < 28 then (if p % 2 = 0 then (1, 0, fun k => if k = 2 then some (p + 1) else none) else (11, 12, fun _ => none))
  else if p < 33 then SH1 p
  else if p < 123 then (if (p - 33) % 10 = 0 then (2, 0, fun k => if 2 ≤ k ∧ k ≤ 10 then some (p + (k - 1)) else none) else (10, 12, fun _ => none))
  else sx p
section JVSH
variable {sx : Nat → jv_S}
theorem sk_0 : (SH sx 0).1 = 5 := rfl
theorem sk_1 : (SH sx 1).1 = 3 := rfl
theorem sk_2 : (SH sx 2).1 = 10 := rfl
theorem sn_2 : (SH sx 2).2.1 = 12 := rfl
theorem sk_3 : (SH sx 3).1 = 10 := rfl
theorem sn_3 : (SH sx 3).2.1 = 12 := rfl
theorem sk_4 : (SH sx 4).1 = 10 := rfl
theorem sn_4 : (SH sx 4).2.1 = 12 := rfl
theorem sk_5 : (SH sx 5).1 = 11 := rfl
theorem sn_5 : (SH sx 5).2.1 = 12 := rfl
theorem sk_6 : (SH sx 6).1 = 14 := rfl
theorem sn_6 : (SH sx 6).2.1 = 4 := rfl
theorem sk_7 : (SH sx 7).1 = 15 := rfl
theorem sn_7 : (SH sx 7).2.1 = 12 := rfl
theorem sk_28 : (SH sx 28).1 = 4 := rfl
theorem sk_29 : (SH sx 29).1 = 10 := rfl
theorem sn_29 : (SH sx 29).2.1 = 12 := rfl
theorem sk_30 : (SH sx 30).1 = 10 := rfl
theorem sn_30 : (SH sx 30).2.1 = 12 := rfl
theorem sk_31 : (SH sx 31).1 = 11 := rfl
theorem sn_31 : (SH sx 31).2.1 = 12 := rfl
theorem sk_32 : (SH sx 32).1 = 13 := rfl
theorem sn_32 : (SH sx 32).2.1 = 8 := rfl
theorem sr_0_0 : (SH sx 0).2.2 0 = some 1 := rfl
theorem sr_0_1 : (SH sx 0).2.2 1 = some 28 := rfl
theorem sr_0_2 : (SH sx 0).2.2 2 = some 32 := rfl
theorem sr_0_3 : (SH sx 0).2.2 3 = some 33 := rfl
theorem sr_1_2 : (SH sx 1).2.2 2 = some 2 := rfl
theorem sr_1_3 : (SH sx 1).2.2 3 = some 3 := rfl
theorem sr_1_4 : (SH sx 1).2.2 4 = some 4 := rfl
theorem sr_1_5 : (SH sx 1).2.2 5 = some 5 := rfl
theorem sr_1_6 : (SH sx 1).2.2 6 = some 6 := rfl
theorem sr_1_7 : (SH sx 1).2.2 7 = some 7 := rfl
theorem sr_28_0 : (SH sx 28).2.2 0 = some 29 := rfl
theorem sr_28_1 : (SH sx 28).2.2 1 = some 30 := rfl
theorem sr_28_2 : (SH sx 28).2.2 2 = some 31 := rfl
theorem sk_row {a : Nat} (h : a < 12) : (SH sx (8 + a)).1 = 10 := by
  unfold SH
  rw [if_neg (by omega), if_pos (by omega)]
theorem sn_row {a : Nat} (h : a < 12) : (SH sx (8 + a)).2.1 = 12 := by
  unfold SH
  rw [if_neg (by omega), if_pos (by omega)]
theorem sr_row {a : Nat} (h : a < 12) : (SH sx 7).2.2 a = some (8 + a) := by
  show (if a < 12 then some (8 + a) else none) = _
  rw [if_pos h]
theorem sr_lif {a : Nat} (h : a < 4) : (SH sx 6).2.2 a = some (20 + 2 * a) := by
  show (if a < 4 then some (20 + 2 * a) else none) = _
  rw [if_pos h]
theorem sr_sta {a : Nat} (h : a < 8) : (SH sx 32).2.2 a = some (43 + 10 * a) := by
  show (if a < 8 then some (43 + 10 * a) else none) = _
  rw [if_pos h]
/-- a place of a lift, of a rumour -/
def isLif (q : Nat) : Prop := ∃ k, k < 4 ∧ q = 20 + 2 * k
def isRum (r : Nat) : Prop := ∃ j, j < 9 ∧ r = 33 + 10 * j
theorem isLif.of {k : Nat} (h : k < 4) : isLif (20 + 2 * k) := ⟨k, h, rfl⟩
theorem isRum.of {j : Nat} (h : j < 8) : isRum (43 + 10 * j) := ⟨j + 1, by omega, by omega⟩
theorem isRum.tr : isRum 33 := ⟨0, by omega, by omega⟩
theorem isRum.lo {r : Nat} (h : isRum r) : 33 ≤ r := by obtain ⟨j, -, rfl⟩ := h; omega
theorem isRum.hi {r : Nat} (h : isRum r) : r ≤ 113 := by obtain ⟨j, h, rfl⟩ := h; omega
theorem isLif.lo {r : Nat} (h : isLif r) : 20 ≤ r := by obtain ⟨j, -, rfl⟩ := h; omega
theorem isLif.hi {r : Nat} (h : isLif r) : r ≤ 26 := by obtain ⟨j, h, rfl⟩ := h; omega
theorem SH_lif {q : Nat} (h : isLif q) : SH sx q = (1, 0, fun k => if k = 2 then some (q + 1) else none) := by
  obtain ⟨k, hk, rfl⟩ := h
  unfold SH
  rw [if_neg (by omega), if_neg (by omega), if_pos (by omega), if_pos (by omega)]
theorem SH_lis {q : Nat} (h : isLif q) : SH sx (q + 1) = (11, 12, fun _ => none) := by
  obtain ⟨k, hk, rfl⟩ := h
  unfold SH
  rw [if_neg (by omega), if_neg (by omega), if_pos (by omega), if_neg (by omega)]
theorem SH_rum {r : Nat} (h : isRum r) : SH sx r = (2, 0, fun k => if 2 ≤ k ∧ k ≤ 10 then some (r + (k - 1)) else none) := by
  obtain ⟨j, hj, rfl⟩ := h
  unfold SH
  rw [if_neg (by omega), if_neg (by omega), if_neg (by omega), if_neg (by omega), if_pos (by omega), if_pos (by omega)]
theorem SH_rua {r i : Nat} (h : isRum r) (h1 : 1 ≤ i) (h9 : i ≤ 9) : SH sx (r + i) = (10, 12, fun _ => none) := by
  obtain ⟨j, hj, rfl⟩ := h
  unfold SH
  rw [if_neg (by omega), if_neg (by omega), if_neg (by omega), if_neg (by omega), if_pos (by omega), if_neg (by omega)]
theorem sk_lif {q : Nat} (h : isLif q) : (SH sx q).1 = 1 := by rw [SH_lif h]
theorem sr_lis {q : Nat} (h : isLif q) : (SH sx q).2.2 2 = some (q + 1) := by rw [SH_lif h]; rfl
theorem sk_lis {q : Nat} (h : isLif q) : (SH sx (q + 1)).1 = 11 := by rw [SH_lis h]
theorem sn_lis {q : Nat} (h : isLif q) : (SH sx (q + 1)).2.1 = 12 := by rw [SH_lis h]
theorem sk_rum {r : Nat} (h : isRum r) : (SH sx r).1 = 2 := by rw [SH_rum h]
theorem sr_rum_2 {r : Nat} (h : isRum r) : (SH sx r).2.2 2 = some (r + 1) := by rw [SH_rum h]; rfl
theorem sr_rum_3 {r : Nat} (h : isRum r) : (SH sx r).2.2 3 = some (r + 2) := by rw [SH_rum h]; rfl
theorem sr_rum_4 {r : Nat} (h : isRum r) : (SH sx r).2.2 4 = some (r + 3) := by rw [SH_rum h]; rfl
theorem sr_rum_5 {r : Nat} (h : isRum r) : (SH sx r).2.2 5 = some (r + 4) := by rw [SH_rum h]; rfl
theorem sr_rum_6 {r : Nat} (h : isRum r) : (SH sx r).2.2 6 = some (r + 5) := by rw [SH_rum h]; rfl
theorem sr_rum_7 {r : Nat} (h : isRum r) : (SH sx r).2.2 7 = some (r + 6) := by rw [SH_rum h]; rfl
theorem sr_rum_8 {r : Nat} (h : isRum r) : (SH sx r).2.2 8 = some (r + 7) := by rw [SH_rum h]; rfl
theorem sr_rum_9 {r : Nat} (h : isRum r) : (SH sx r).2.2 9 = some (r + 8) := by rw [SH_rum h]; rfl
theorem sr_rum_10 {r : Nat} (h : isRum r) : (SH sx r).2.2 10 = some (r + 9) := by rw [SH_rum h]; rfl
theorem sk_rua_1 {r : Nat} (h : isRum r) : (SH sx (r + 1)).1 = 10 := by rw [SH_rua h (by omega) (by omega)]
theorem sn_rua_1 {r : Nat} (h : isRum r) : (SH sx (r + 1)).2.1 = 12 := by rw [SH_rua h (by omega) (by omega)]
theorem sk_rua_2 {r : Nat} (h : isRum r) : (SH sx (r + 2)).1 = 10 := by rw [SH_rua h (by omega) (by omega)]
theorem sn_rua_2 {r : Nat} (h : isRum r) : (SH sx (r + 2)).2.1 = 12 := by rw [SH_rua h (by omega) (by omega)]
theorem sk_rua_3 {r : Nat} (h : isRum r) : (SH sx (r + 3)).1 = 10 := by rw [SH_rua h (by omega) (by omega)]
theorem sn_rua_3 {r : Nat} (h : isRum r) : (SH sx (r + 3)).2.1 = 12 := by rw [SH_rua h (by omega) (by omega)]
theorem sk_rua_4 {r : Nat} (h : isRum r) : (SH sx (r + 4)).1 = 10 := by rw [SH_rua h (by omega) (by omega)]
theorem sn_rua_4 {r : Nat} (h : isRum r) : (SH sx (r + 4)).2.1 = 12 := by rw [SH_rua h (by omega) (by omega)]
theorem sk_rua_5 {r : Nat} (h : isRum r) : (SH sx (r + 5)).1 = 10 := by rw [SH_rua h (by omega) (by omega)]
theorem sn_rua_5 {r : Nat} (h : isRum r) : (SH sx (r + 5)).2.1 = 12 := by rw [SH_rua h (by omega) (by omega)]
theorem sk_rua_6 {r : Nat} (h : isRum r) : (SH sx (r + 6)).1 = 10 := by rw [SH_rua h (by omega) (by omega)]
theorem sn_rua_6 {r : Nat} (h : isRum r) : (SH sx (r + 6)).2.1 = 12 := by rw [SH_rua h (by omega) (by omega)]
theorem sk_rua_7 {r : Nat} (h : isRum r) : (SH sx (r + 7)).1 = 10 := by rw [SH_rua h (by omega) (by omega)]
theorem sn_rua_7 {r : Nat} (h : isRum r) : (SH sx (r + 7)).2.1 = 12 := by rw [SH_rua h (by omega) (by omega)]
theorem sk_rua_8 {r : Nat} (h : isRum r) : (SH sx (r + 8)).1 = 10 := by rw [SH_rua h (by omega) (by omega)]
theorem sn_rua_8 {r : Nat} (h : isRum r) : (SH sx (r + 8)).2.1 = 12 := by rw [SH_rua h (by omega) (by omega)]
theorem sk_rua_9 {r : Nat} (h : isRum r) : (SH sx (r + 9)).1 = 10 := by rw [SH_rua h (by omega) (by omega)]
theorem sn_rua_9 {r : Nat} (h : isRum r) : (SH sx (r + 9)).2.1 = 12 := by rw [SH_rua h (by omega) (by omega)]
end JVSH
/-! reads behind writes -/
theorem jv_Ueq {V : Nat → Nat → Int32} {p i : Nat} {x : Int32} : jv_U V p i x p i = x := by
  unfold jv_U
  rw [if_pos rfl, if_pos rfl]
theorem jv_Une {V : Nat → Nat → Int32} {p i q j : Nat} {x : Int32} (h : q ≠ p) : jv_U V p i x q j = V q j := by
  unfold jv_U
  rw [if_neg h]
theorem jv_Unj {V : Nat → Nat → Int32} {p q i j : Nat} {x : Int32} (h : j ≠ i) : jv_U V p i x q j = V q j := by
  unfold jv_U
  by_cases e : q = p
  · rw [if_pos e, if_neg h]
  · rw [if_neg e]
section JVT
variable {g : jv_G} {X : jv_X} {I : jv_I} {pc n : Nat} {ls : List (Option Value)} {st : List Value} {sh : Nat → jv_S} {V : Nat → Nat → Int32} {L : Nat → Nat → Int64} {k z : Nat}
theorem j_top {x y : Int32} (h : x = y) (kk : jv_J g X I pc ls (.int y :: st) n sh V L k z) : jv_J g X I pc ls (.int x :: st) n sh V L k z := by rw [h]; exact kk
theorem j_topl {x y : Int64} (h : x = y) (kk : jv_J g X I pc ls (.long y :: st) n sh V L k z) : jv_J g X I pc ls (.long x :: st) n sh V L k z := by rw [h]; exact kk
theorem j_mem {V' : Nat → Nat → Int32} (h : V = V') (kk : jv_J g X I pc ls st n sh V' L k z) : jv_J g X I pc ls st n sh V L k z := by rw [h]; exact kk
theorem j_iaddN {a b : Nat} (d : decode (jb I) pc = .ok (.iadd, 1)) (kk : jv_J g X I (pc + 1) ls (.int (nI (a + b)) :: st) n sh V L k z) : jv_J g X I pc ls (.int (nI b) :: .int (nI a) :: st) n sh V L k z := j_iadd d (by rw [nI_add]; exact kk)
theorem j_imulN {a b : Nat} (d : decode (jb I) pc = .ok (.imul, 1)) (kk : jv_J g X I (pc + 1) ls (.int (nI (a * b)) :: st) n sh V L k z) : jv_J g X I pc ls (.int (nI b) :: .int (nI a) :: st) n sh V L k z := j_imul d (by rw [pk_mul]; exact kk)
theorem j_isubN {a b : Nat} (h : b ≤ a) (d : decode (jb I) pc = .ok (.isub, 1)) (kk : jv_J g X I (pc + 1) ls (.int (nI (a - b)) :: st) n sh V L k z) : jv_J g X I pc ls (.int (nI b) :: .int (nI a) :: st) n sh V L k z := j_isub d (by rw [pk_sub h]; exact kk)
theorem j_ic_ltN {a b : Nat} {off : Int} {tgt : Nat} (ha : a < 2 ^ 31) (hb : b < 2 ^ 31) (d : decode (jb I) pc = .ok (.if_icmp .lt off, 3)) (ht : (pc : Int) + off = (tgt : Int)) (kt : a < b → jv_J g X I tgt ls st n sh V L k z) (kf : b ≤ a → jv_J g X I (pc + 3) ls st n sh V L k z) : jv_J g X I pc ls (.int (nI b) :: .int (nI a) :: st) n sh V L k z :=
  j_ic_lt d ht (fun q => kt ((nI_ltI ha hb).mp q)) (fun q => kf (by rw [nI_ltI ha hb] at q; omega))
theorem j_ic_geN {a b : Nat} {off : Int} {tgt : Nat} (ha : a < 2 ^ 31) (hb : b < 2 ^ 31) (d : decode (jb I) pc = .ok (.if_icmp .ge off, 3)) (ht : (pc : Int) + off = (tgt : Int)) (kt : b ≤ a → jv_J g X I tgt ls st n sh V L k z) (kf : a < b → jv_J g X I (pc + 3) ls st n sh V L k z) : jv_J g X I pc ls (.int (nI b) :: .int (nI a) :: st) n sh V L k z :=
  j_ic_ge d ht (fun q => kt ((nI_leI hb ha).mp q)) (fun q => kf (by rw [nI_leI hb ha] at q; omega))
theorem j_ic_gtN {a b : Nat} {off : Int} {tgt : Nat} (ha : a < 2 ^ 31) (hb : b < 2 ^ 31) (d : decode (jb I) pc = .ok (.if_icmp .gt off, 3)) (ht : (pc : Int) + off = (tgt : Int)) (kt : b < a → jv_J g X I tgt ls st n sh V L k z) (kf : a ≤ b → jv_J g X I (pc + 3) ls st n sh V L k z) : jv_J g X I pc ls (.int (nI b) :: .int (nI a) :: st) n sh V L k z :=
  j_ic_gt d ht (fun q => kt ((nI_ltI hb ha).mp q)) (fun q => kf (by rw [nI_ltI hb ha] at q; omega))
theorem j_ic_leN {a b : Nat} {off : Int} {tgt : Nat} (ha : a < 2 ^ 31) (hb : b < 2 ^ 31) (d : decode (jb I) pc = .ok (.if_icmp .le off, 3)) (ht : (pc : Int) + off = (tgt : Int)) (kt : a ≤ b → jv_J g X I tgt ls st n sh V L k z) (kf : b < a → jv_J g X I (pc + 3) ls st n sh V L k z) : jv_J g X I pc ls (.int (nI b) :: .int (nI a) :: st) n sh V L k z :=
  j_ic_le d ht (fun q => kt ((nI_leI ha hb).mp q)) (fun q => kf (by rw [nI_leI ha hb] at q; omega))
theorem j_ic_eqN {a b : Nat} {off : Int} {tgt : Nat} (ha : a < 2 ^ 31) (hb : b < 2 ^ 31) (d : decode (jb I) pc = .ok (.if_icmp .eq off, 3)) (ht : (pc : Int) + off = (tgt : Int)) (kt : a = b → jv_J g X I tgt ls st n sh V L k z) (kf : ¬ a = b → jv_J g X I (pc + 3) ls st n sh V L k z) : jv_J g X I pc ls (.int (nI b) :: .int (nI a) :: st) n sh V L k z :=
  j_ic_eq d ht (fun q => kt ((nI_eq ha hb).mp q)) (fun q => kf (by rw [nI_eq ha hb] at q; exact q))
theorem j_ic_neN {a b : Nat} {off : Int} {tgt : Nat} (ha : a < 2 ^ 31) (hb : b < 2 ^ 31) (d : decode (jb I) pc = .ok (.if_icmp .ne off, 3)) (ht : (pc : Int) + off = (tgt : Int)) (kt : ¬ a = b → jv_J g X I tgt ls st n sh V L k z) (kf : a = b → jv_J g X I (pc + 3) ls st n sh V L k z) : jv_J g X I pc ls (.int (nI b) :: .int (nI a) :: st) n sh V L k z :=
  j_ic_ne d ht (fun q => kt (by rw [nI_eq ha hb] at q; exact q)) (fun q => kf ((nI_eq ha hb).mp q))
theorem j_max {idx : Nat} {x y : Int32} (hl : Cond.methodLink (jo I) idx Lib.Math.max.name ∈ jv_gw) (hsta : Cond.static Lib.Math.max.name ∈ jv_gw) (hini : Cond.initialized "java/lang/Math" ∈ jv_gw) (hcode : Cond.code Lib.Math.max.name Lib.Math.max.code 2 (some .int) ∈ jv_gw) (hlv : 1 ≤ jd I) (d : decode (jb I) pc = .ok (.invokestatic idx, 3)) (hcat : (st.map fun v => v.category).sum ≤ 8)
    (kk : jv_J g X I (pc + 3) ls (.int (if x < y then y else x) :: st) n sh V L k z) : jv_J g X I pc ls (.int y :: .int x :: st) n sh V L k z := by
  obtain ⟨p, l, e, R, s, m, args, below, meth, cd, Q⟩ := X
  intro hC lsA H locs cells slots hP hS hl0 hcc hss
  obtain ⟨c1, c2, c3, c4, c5, c6, c7, c8, c9, c10, c11, c12, c13⟩ := id hC
  exact va_mmax c1 c2 (by rw [c3]; exact hl0.1.symm) c4 (c5 _ hl) (c5 _ hsta) (c5 _ hini) (c5 _ hcode) (by omega) (by omega) (by omega) (by omega) d (kk hC lsA H locs cells slots hP hS hl0 hcc hss)
theorem j_min {idx : Nat} {x y : Int32} (hl : Cond.methodLink (jo I) idx Lib.Math.min.name ∈ jv_gw) (hsta : Cond.static Lib.Math.min.name ∈ jv_gw) (hini : Cond.initialized "java/lang/Math" ∈ jv_gw) (hcode : Cond.code Lib.Math.min.name Lib.Math.min.code 2 (some .int) ∈ jv_gw) (hlv : 1 ≤ jd I) (d : decode (jb I) pc = .ok (.invokestatic idx, 3)) (hcat : (st.map fun v => v.category).sum ≤ 8)
    (kk : jv_J g X I (pc + 3) ls (.int (if y < x then y else x) :: st) n sh V L k z) : jv_J g X I pc ls (.int y :: .int x :: st) n sh V L k z := by
  obtain ⟨p, l, e, R, s, m, args, below, meth, cd, Q⟩ := X
  intro hC lsA H locs cells slots hP hS hl0 hcc hss
  obtain ⟨c1, c2, c3, c4, c5, c6, c7, c8, c9, c10, c11, c12, c13⟩ := id hC
  exact va_mmin c1 c2 (by rw [c3]; exact hl0.1.symm) c4 (c5 _ hl) (c5 _ hsta) (c5 _ hini) (c5 _ hcode) (by omega) (by omega) (by omega) (by omega) d (kk hC lsA H locs cells slots hP hS hl0 hcc hss)
end JVT
/-! numbers -/
theorem SH_self {sh : Nat → jv_S} (h : ∀ p, p < 123 → sh p = SH (fun _ => (0, 0, fun _ => none)) p) : SH sh = sh := by
  funext p
  by_cases hp : p < 123
  · rw [h p hp]
    unfold SH
    repeat' split
    all_goals first | rfl | omega
  · unfold SH
    rw [if_neg (by omega), if_neg (by omega), if_neg (by omega), if_neg (by omega), if_neg (by omega)]
theorem nc_bipush_10 : (Int8.ofInt 10).toInt32 = nI 10 := by decide +kernel
theorem nc_bipush_100 : (Int8.ofInt 100).toInt32 = nI 100 := by decide +kernel
theorem nc_bipush_11 : (Int8.ofInt 11).toInt32 = nI 11 := by decide +kernel
theorem nc_bipush_12 : (Int8.ofInt 12).toInt32 = nI 12 := by decide +kernel
theorem nc_bipush_14 : (Int8.ofInt 14).toInt32 = nI 14 := by decide +kernel
theorem nc_bipush_15 : (Int8.ofInt 15).toInt32 = nI 15 := by decide +kernel
theorem nc_bipush_20 : (Int8.ofInt 20).toInt32 = nI 20 := by decide +kernel
theorem nc_bipush_29 : (Int8.ofInt 29).toInt32 = nI 29 := by decide +kernel
theorem nc_bipush_37 : (Int8.ofInt 37).toInt32 = nI 37 := by decide +kernel
theorem nc_bipush_53 : (Int8.ofInt 53).toInt32 = nI 53 := by decide +kernel
theorem nc_bipush_6 : (Int8.ofInt 6).toInt32 = nI 6 := by decide +kernel
theorem nc_bipush_60 : (Int8.ofInt 60).toInt32 = nI 60 := by decide +kernel
theorem nc_bipush_7 : (Int8.ofInt 7).toInt32 = nI 7 := by decide +kernel
theorem nc_bipush_8 : (Int8.ofInt 8).toInt32 = nI 8 := by decide +kernel
theorem nc_bipush_9 : (Int8.ofInt 9).toInt32 = nI 9 := by decide +kernel
theorem nc_bipush_99 : (Int8.ofInt 99).toInt32 = nI 99 := by decide +kernel
theorem nc_iconst_m1 : Int32.ofInt (-1) = (-1 : Int32) := by decide +kernel
theorem nc_iconst_0 : Int32.ofInt 0 = nI 0 := by decide +kernel
theorem nc_iconst_1 : Int32.ofInt 1 = nI 1 := by decide +kernel
theorem nc_iconst_2 : Int32.ofInt 2 = nI 2 := by decide +kernel
theorem nc_iconst_3 : Int32.ofInt 3 = nI 3 := by decide +kernel
theorem nc_iconst_4 : Int32.ofInt 4 = nI 4 := by decide +kernel
theorem nc_iconst_5 : Int32.ofInt 5 = nI 5 := by decide +kernel
theorem at_283 : ∀ w ∈ (vx_atS RX4 287 "java/lang/IndexOutOfBoundsException" ["java/lang/RuntimeException", "java/lang/Exception"]).filter goodWord, w ∈ jv_gw := fun w hw => List.mem_filter.mpr ⟨(show ∀ w ∈ (vx_atS RX4 287 "java/lang/IndexOutOfBoundsException" ["java/lang/RuntimeException", "java/lang/Exception"]).filter goodWord, w ∈ lw_tbl by decide +kernel) w hw, (List.mem_filter.mp hw).2⟩
theorem an_283 : ∀ w ∈ (vx_atS RX4 287 "java/lang/IndexOutOfBoundsException" ["java/lang/RuntimeException", "java/lang/Exception"]).filter (fun w => !goodWord w), w ∈ jv_oth := by decide +kernel
theorem ag_283 : ∀ w ∈ Cond.classLink RX4 283 "java/lang/IndexOutOfBoundsException" :: Cond.initialized "java/lang/IndexOutOfBoundsException" :: vx_atS RX4 287 "java/lang/IndexOutOfBoundsException" ["java/lang/RuntimeException", "java/lang/Exception"], vx_ot w = true := by decide +kernel
theorem at_294 : ∀ w ∈ (vx_atS RX4 298 "java/lang/IllegalArgumentException" ["java/lang/RuntimeException", "java/lang/Exception"]).filter goodWord, w ∈ jv_gw := fun w hw => List.mem_filter.mpr ⟨(show ∀ w ∈ (vx_atS RX4 298 "java/lang/IllegalArgumentException" ["java/lang/RuntimeException", "java/lang/Exception"]).filter goodWord, w ∈ lw_tbl by decide +kernel) w hw, (List.mem_filter.mp hw).2⟩
theorem an_294 : ∀ w ∈ (vx_atS RX4 298 "java/lang/IllegalArgumentException" ["java/lang/RuntimeException", "java/lang/Exception"]).filter (fun w => !goodWord w), w ∈ jv_oth := by decide +kernel
theorem ag_294 : ∀ w ∈ Cond.classLink RX4 294 "java/lang/IllegalArgumentException" :: Cond.initialized "java/lang/IllegalArgumentException" :: vx_atS RX4 298 "java/lang/IllegalArgumentException" ["java/lang/RuntimeException", "java/lang/Exception"], vx_ot w = true := by decide +kernel
theorem at_79 : ∀ w ∈ (vx_atS RX4 83 "java/lang/IllegalStateException" ["java/lang/RuntimeException", "java/lang/Exception"]).filter goodWord, w ∈ jv_gw := fun w hw => List.mem_filter.mpr ⟨(show ∀ w ∈ (vx_atS RX4 83 "java/lang/IllegalStateException" ["java/lang/RuntimeException", "java/lang/Exception"]).filter goodWord, w ∈ lw_tbl by decide +kernel) w hw, (List.mem_filter.mp hw).2⟩
theorem an_79 : ∀ w ∈ (vx_atS RX4 83 "java/lang/IllegalStateException" ["java/lang/RuntimeException", "java/lang/Exception"]).filter (fun w => !goodWord w), w ∈ jv_oth := by decide +kernel
theorem ag_79 : ∀ w ∈ Cond.classLink RX4 79 "java/lang/IllegalStateException" :: Cond.initialized "java/lang/IllegalStateException" :: vx_atS RX4 83 "java/lang/IllegalStateException" ["java/lang/RuntimeException", "java/lang/Exception"], vx_ot w = true := by decide +kernel
theorem T_X4_addLift {g : jv_G} {X : jv_X} {n : Nat} {ls : List (Option Value)} {st : List Value} {sh : Nat → jv_S} {V : Nat → Nat → Int32} {L : Nat → Nat → Int64} {k z : Nat} {T : jv_T} (hM : jv_M g X T) (hcat : (st.map fun v => v.category).sum ≤ 8) (hk : 1 ≤ k) (hz : 6 ≤ z) (hT : ∀ n', n ≤ n' → T (.inr "java/lang/IllegalStateException") n' sh V L) : jv_J g X I_X4_addLift 37 ls st n sh V L k z :=
  jv_throw (I := I_X4_addLift) (ik := 79) (is := 81) (ic := 83) (text := "there are as many lifts as can be") (cls := "java/lang/IllegalStateException") hM rfl (by decide +kernel) (by decide +kernel) (by decide +kernel) (by decide) (jv_gwm 691 (by decide +kernel) rfl) (jv_gwm 25 (by decide +kernel) rfl) at_79 an_79 ag_79 dX4_addLift_37 dX4_addLift_40 (Or.inl ⟨dX4_addLift_41, dX4_addLift_43, dX4_addLift_46⟩) hcat hk hz hT
theorem T_X4_startRumour {g : jv_G} {X : jv_X} {n : Nat} {ls : List (Option Value)} {st : List Value} {sh : Nat → jv_S} {V : Nat → Nat → Int32} {L : Nat → Nat → Int64} {k z : Nat} {T : jv_T} (hM : jv_M g X T) (hcat : (st.map fun v => v.category).sum ≤ 8) (hk : 1 ≤ k) (hz : 6 ≤ z) (hT : ∀ n', n ≤ n' → T (.inr "java/lang/IllegalStateException") n' sh V L) : jv_J g X I_X4_startRumour 21 ls st n sh V L k z :=
  jv_throw (I := I_X4_startRumour) (ik := 79) (is := 106) (ic := 83) (text := "there are as many rumours as can be") (cls := "java/lang/IllegalStateException") hM rfl (by decide +kernel) (by decide +kernel) (by decide +kernel) (by decide) (jv_gwm 691 (by decide +kernel) rfl) (jv_gwm 25 (by decide +kernel) rfl) at_79 an_79 ag_79 dX4_startRumour_21 dX4_startRumour_24 (Or.inl ⟨dX4_startRumour_25, dX4_startRumour_27, dX4_startRumour_30⟩) hcat hk hz hT
theorem T_X4_startDenial {g : jv_G} {X : jv_X} {n : Nat} {ls : List (Option Value)} {st : List Value} {sh : Nat → jv_S} {V : Nat → Nat → Int32} {L : Nat → Nat → Int64} {k z : Nat} {T : jv_T} (hM : jv_M g X T) (hcat : (st.map fun v => v.category).sum ≤ 8) (hk : 1 ≤ k) (hz : 6 ≤ z) (hT : ∀ n', n ≤ n' → T (.inr "java/lang/IllegalStateException") n' sh V L) : jv_J g X I_X4_startDenial 27 ls st n sh V L k z :=
  jv_throw (I := I_X4_startDenial) (ik := 79) (is := 118) (ic := 83) (text := "it was denied there already") (cls := "java/lang/IllegalStateException") hM rfl (by decide +kernel) (by decide +kernel) (by decide +kernel) (by decide) (jv_gwm 691 (by decide +kernel) rfl) (jv_gwm 25 (by decide +kernel) rfl) at_79 an_79 ag_79 dX4_startDenial_27 dX4_startDenial_30 (Or.inl ⟨dX4_startDenial_31, dX4_startDenial_33, dX4_startDenial_36⟩) hcat hk hz hT
theorem T_X4_needFloor {g : jv_G} {X : jv_X} {n : Nat} {ls : List (Option Value)} {st : List Value} {sh : Nat → jv_S} {V : Nat → Nat → Int32} {L : Nat → Nat → Int64} {k z : Nat} {T : jv_T} (hM : jv_M g X T) (hcat : (st.map fun v => v.category).sum ≤ 8) (hk : 1 ≤ k) (hz : 6 ≤ z) (hT : ∀ n', n ≤ n' → T (.inr "java/lang/IndexOutOfBoundsException") n' sh V L) : jv_J g X I_X4_needFloor 15 ls st n sh V L k z :=
  jv_throw (I := I_X4_needFloor) (ik := 283) (is := 285) (ic := 287) (text := "no such floor") (cls := "java/lang/IndexOutOfBoundsException") hM rfl (by decide +kernel) (by decide +kernel) (by decide +kernel) (by decide) (jv_gwm 321 (by decide +kernel) rfl) (jv_gwm 24 (by decide +kernel) rfl) at_283 an_283 ag_283 dX4_needFloor_15 dX4_needFloor_18 (Or.inr ⟨dX4_needFloor_19, dX4_needFloor_22, dX4_needFloor_25⟩) hcat hk hz hT
theorem T_X4_needStairs {g : jv_G} {X : jv_X} {n : Nat} {ls : List (Option Value)} {st : List Value} {sh : Nat → jv_S} {V : Nat → Nat → Int32} {L : Nat → Nat → Int64} {k z : Nat} {T : jv_T} (hM : jv_M g X T) (hcat : (st.map fun v => v.category).sum ≤ 8) (hk : 1 ≤ k) (hz : 6 ≤ z) (hT : ∀ n', n ≤ n' → T (.inr "java/lang/IndexOutOfBoundsException") n' sh V L) : jv_J g X I_X4_needStairs 17 ls st n sh V L k z :=
  jv_throw (I := I_X4_needStairs) (ik := 283) (is := 288) (ic := 287) (text := "no stairs lead up from there") (cls := "java/lang/IndexOutOfBoundsException") hM rfl (by decide +kernel) (by decide +kernel) (by decide +kernel) (by decide) (jv_gwm 321 (by decide +kernel) rfl) (jv_gwm 24 (by decide +kernel) rfl) at_283 an_283 ag_283 dX4_needStairs_17 dX4_needStairs_20 (Or.inr ⟨dX4_needStairs_21, dX4_needStairs_24, dX4_needStairs_27⟩) hcat hk hz hT
theorem T_X4_needLift {g : jv_G} {X : jv_X} {n : Nat} {ls : List (Option Value)} {st : List Value} {sh : Nat → jv_S} {V : Nat → Nat → Int32} {L : Nat → Nat → Int64} {k z : Nat} {T : jv_T} (hM : jv_M g X T) (hcat : (st.map fun v => v.category).sum ≤ 8) (hk : 1 ≤ k) (hz : 6 ≤ z) (hT : ∀ n', n ≤ n' → T (.inr "java/lang/IndexOutOfBoundsException") n' sh V L) : jv_J g X I_X4_needLift 15 ls st n sh V L k z :=
  jv_throw (I := I_X4_needLift) (ik := 283) (is := 290) (ic := 287) (text := "no such lift") (cls := "java/lang/IndexOutOfBoundsException") hM rfl (by decide +kernel) (by decide +kernel) (by decide +kernel) (by decide) (jv_gwm 321 (by decide +kernel) rfl) (jv_gwm 24 (by decide +kernel) rfl) at_283 an_283 ag_283 dX4_needLift_15 dX4_needLift_18 (Or.inr ⟨dX4_needLift_19, dX4_needLift_22, dX4_needLift_25⟩) hcat hk hz hT
theorem T_X4_needRumour {g : jv_G} {X : jv_X} {n : Nat} {ls : List (Option Value)} {st : List Value} {sh : Nat → jv_S} {V : Nat → Nat → Int32} {L : Nat → Nat → Int64} {k z : Nat} {T : jv_T} (hM : jv_M g X T) (hcat : (st.map fun v => v.category).sum ≤ 8) (hk : 1 ≤ k) (hz : 6 ≤ z) (hT : ∀ n', n ≤ n' → T (.inr "java/lang/IndexOutOfBoundsException") n' sh V L) : jv_J g X I_X4_needRumour 12 ls st n sh V L k z :=
  jv_throw (I := I_X4_needRumour) (ik := 283) (is := 292) (ic := 287) (text := "no such rumour") (cls := "java/lang/IndexOutOfBoundsException") hM rfl (by decide +kernel) (by decide +kernel) (by decide +kernel) (by decide) (jv_gwm 321 (by decide +kernel) rfl) (jv_gwm 24 (by decide +kernel) rfl) at_283 an_283 ag_283 dX4_needRumour_12 dX4_needRumour_15 (Or.inr ⟨dX4_needRumour_16, dX4_needRumour_19, dX4_needRumour_22⟩) hcat hk hz hT
theorem T_X4_needArgument {g : jv_G} {X : jv_X} {n : Nat} {ls : List (Option Value)} {st : List Value} {sh : Nat → jv_S} {V : Nat → Nat → Int32} {L : Nat → Nat → Int64} {k z : Nat} {T : jv_T} (hM : jv_M g X T) (hcat : (st.map fun v => v.category).sum ≤ 8) (hk : 1 ≤ k) (hz : 6 ≤ z) (hT : ∀ n', n ≤ n' → T (.inr "java/lang/IllegalArgumentException") n' sh V L) : jv_J g X I_X4_needArgument 10 ls st n sh V L k z :=
  jv_throw (I := I_X4_needArgument) (ik := 294) (is := 296) (ic := 298) (text := "out of the range that is allowed") (cls := "java/lang/IllegalArgumentException") hM rfl (by decide +kernel) (by decide +kernel) (by decide +kernel) (by decide) (jv_gwm 213 (by decide +kernel) rfl) (jv_gwm 23 (by decide +kernel) rfl) at_294 an_294 ag_294 dX4_needArgument_10 dX4_needArgument_13 (Or.inr ⟨dX4_needArgument_14, dX4_needArgument_17, dX4_needArgument_20⟩) hcat hk hz hT
theorem MX_X3_46 {g : jv_G} {X : jv_X} {I : jv_I} {pc n : Nat} {ls : List (Option Value)} {st : List Value} {sh : Nat → jv_S} {V : Nat → Nat → Int32} {L : Nat → Nat → Int64} {k z : Nat} {x y : Int32} (hI : jo I = RX3) (hlv : 1 ≤ jd I) (d : decode (jb I) pc = .ok (.invokestatic 46, 3)) (hcat : (st.map fun v => v.category).sum ≤ 8) (kk : jv_J g X I (pc + 3) ls (.int (if x < y then y else x) :: st) n sh V L k z) : jv_J g X I pc ls (.int y :: .int x :: st) n sh V L k z :=
  j_max (by rw [hI]; exact jv_gwm 439 (by decide +kernel) rfl) (jv_gwm 440 (by decide +kernel) rfl) (jv_gwm 27 (by decide +kernel) rfl) (jv_gwm 441 (by decide +kernel) rfl) hlv d hcat kk
theorem AC_X1_50 {g : jv_G} {X : jv_X} {I : jv_I} {pc n : Nat} {ls : List (Option Value)} {st : List Value} {sh : Nat → jv_S} {V : Nat → Nat → Int32} {L : Nat → Nat → Int64} {k z q r N M : Nat} (hI : jo I = RX1) (hlv : 2 ≤ jd I) (d : decode (jb I) pc = .ok (.invokestatic 50, 3)) (hq : (sh q).1 = 10) (hr : (sh r).1 = 10) (hqn : (sh q).2.1 = N) (hrn : (sh r).2.1 = N) (hM : M ≤ N) (hN : N < 100000) (hcat : (st.map fun v => v.category).sum ≤ 8) (kk : jv_J g X I (pc + 3) ls st n sh (jv_cpy V q r M) L k z) : jv_J g X I pc ls (.int (nI M) :: .int (nI 0) :: jv_r g r :: .int (nI 0) :: jv_r g q :: st) n sh V L k z :=
  jv_acopy (by rw [hI]; exact jv_gwm 458 (by decide +kernel) rfl) (jv_gwm 460 (by decide +kernel) rfl) (jv_gwm 459 (by decide +kernel) rfl) (jv_gwm 28 (by decide +kernel) rfl) hlv d hq hr hqn hrn hM hN hcat kk
theorem MX_X6_87 {g : jv_G} {X : jv_X} {I : jv_I} {pc n : Nat} {ls : List (Option Value)} {st : List Value} {sh : Nat → jv_S} {V : Nat → Nat → Int32} {L : Nat → Nat → Int64} {k z : Nat} {x y : Int32} (hI : jo I = RX6) (hlv : 1 ≤ jd I) (d : decode (jb I) pc = .ok (.invokestatic 87, 3)) (hcat : (st.map fun v => v.category).sum ≤ 8) (kk : jv_J g X I (pc + 3) ls (.int (if y < x then y else x) :: st) n sh V L k z) : jv_J g X I pc ls (.int y :: .int x :: st) n sh V L k z :=
  j_min (by rw [hI]; exact jv_gwm 586 (by decide +kernel) rfl) (jv_gwm 587 (by decide +kernel) rfl) (jv_gwm 27 (by decide +kernel) rfl) (jv_gwm 588 (by decide +kernel) rfl) hlv d hcat kk
