/-! ===== new rows in any number: rules that name the heap anew ===== -/
theorem US_1 {sh : Nat → jv_S} {p i q2 q : Nat} : (jv_US sh p i q2 q).1 = (sh q).1 := by
  unfold jv_US
  by_cases e : q = p
  · rw [if_pos e]
  · rw [if_neg e]
theorem US_2 {sh : Nat → jv_S} {p i q2 q : Nat} : (jv_US sh p i q2 q).2.1 = (sh q).2.1 := by
  unfold jv_US
  by_cases e : q = p
  · rw [if_pos e]
  · rw [if_neg e]
theorem US_eq {sh : Nat → jv_S} {p i q2 : Nat} : (jv_US sh p i q2 p).2.2 i = some q2 := by
  rw [jv_US_self]
  exact if_pos rfl
theorem US_nej {sh : Nat → jv_S} {p i q2 q j : Nat} (h : j ≠ i) : (jv_US sh p i q2 q).2.2 j = (sh q).2.2 j := by
  unfold jv_US
  by_cases e : q = p
  · rw [if_pos e]
    exact if_neg h
  · rw [if_neg e]
theorem jv_NS_ne {sh : Nat → jv_S} {p q : Nat} {x : jv_S} (h : q ≠ p) : jv_NS sh p x q = sh q := if_neg h
theorem jv_NV_ne {V : Nat → Nat → Int32} {p q : Nat} {f : Nat → Int32} (h : q ≠ p) : jv_NV V p f q = V q := if_neg h
/-- a new place with shape x and numbers f; all else is as it was -/
def nw (n : Nat) (sh : Nat → jv_S) (V : Nat → Nat → Int32) (x : jv_S) (f : Nat → Int32) (sh1 : Nat → jv_S) (V1 : Nat → Nat → Int32) : Prop := (∀ q, q ≠ n → sh1 q = sh q ∧ V1 q = V q) ∧ sh1 n = x ∧ V1 n = f
/-- one reference set -/
def st (sh : Nat → jv_S) (p i q2 : Nat) (sh1 : Nat → jv_S) : Prop := (∀ q, q ≠ p → sh1 q = sh q) ∧ (sh1 p).1 = (sh p).1 ∧ (sh1 p).2.1 = (sh p).2.1 ∧ (∀ j, j ≠ i → (sh1 p).2.2 j = (sh p).2.2 j) ∧ (sh1 p).2.2 i = some q2
theorem st.of {sh : Nat → jv_S} {p i q2 : Nat} : st sh p i q2 (jv_US sh p i q2) := ⟨fun _ h => jv_US_other h, US_1, US_2, fun _ h => US_nej h, US_eq⟩
theorem nw.of {n : Nat} {sh : Nat → jv_S} {V : Nat → Nat → Int32} {x : jv_S} {f : Nat → Int32} : nw n sh V x f (jv_NS sh n x) (jv_NV V n f) := ⟨fun _ h => ⟨jv_NS_ne h, jv_NV_ne h⟩, jv_NS_self _ _ _, jv_NV_self _ _ _⟩
theorem nw.ofS {n : Nat} {sh : Nat → jv_S} {V : Nat → Nat → Int32} {x : jv_S} : nw n sh V x (V n) (jv_NS sh n x) V := ⟨fun _ h => ⟨jv_NS_ne h, rfl⟩, jv_NS_self _ _ _, rfl⟩
/-- the kind of a place, however references were set -/
theorem st.k {sh sh1 : Nat → jv_S} {p i q2 q : Nat} (h : st sh p i q2 sh1) : (sh1 q).1 = (sh q).1 := by
  by_cases e : q = p
  · rw [e]; exact h.2.1
  · rw [h.1 q e]
theorem st.n {sh sh1 : Nat → jv_S} {p i q2 q : Nat} (h : st sh p i q2 sh1) : (sh1 q).2.1 = (sh q).2.1 := by
  by_cases e : q = p
  · rw [e]; exact h.2.2.1
  · rw [h.1 q e]
theorem st.r {sh sh1 : Nat → jv_S} {p i q2 q j : Nat} (h : st sh p i q2 sh1) (hj : j ≠ i) : (sh1 q).2.2 j = (sh q).2.2 j := by
  by_cases e : q = p
  · rw [e]; exact h.2.2.2.1 j hj
  · rw [h.1 q e]
section JVD
variable {g : jv_G} {X : jv_X} {I I' : jv_I} {pc n : Nat} {ls : List (Option Value)} {stk : List Value} {sh : Nat → jv_S} {V : Nat → Nat → Int32} {L : Nat → Nat → Int64} {k z : Nat} {T : jv_T}
theorem jr_newI {N : Nat} (hw : Cond.arrayClass .int ∈ jv_gw) (d : decode (jb I) pc = .ok (.newarray .int, 2)) (hN : N < 100000) {k2 z2 : Nat} (hk : 1 + k2 ≤ k) (hz : N + z2 ≤ z)
    (kk : ∀ sh1 V1, nw n sh V (10, N, fun _ => none) (fun _ => 0) sh1 V1 → jv_J g X I (pc + 2) ls (jv_r g n :: stk) (n + 1) sh1 V1 L k2 z2) : jv_J g X I pc ls (.int (nI N) :: stk) n sh V L k z :=
  jv_newI hw d hN hk hz (kk _ _ nw.of)
theorem jr_newZ {N : Nat} (hw : Cond.arrayClass .boolean ∈ jv_gw) (d : decode (jb I) pc = .ok (.newarray .boolean, 2)) (hN : N < 100000) {k2 z2 : Nat} (hk : 1 + k2 ≤ k) (hz : N + z2 ≤ z)
    (kk : ∀ sh1 V1, nw n sh V (11, N, fun _ => none) (fun _ => 0) sh1 V1 → jv_J g X I (pc + 2) ls (jv_r g n :: stk) (n + 1) sh1 V1 L k2 z2) : jv_J g X I pc ls (.int (nI N) :: stk) n sh V L k z :=
  jv_newZ hw d hN hk hz (kk _ _ nw.of)
theorem jr_anewA {N idx : Nat} (hl : Cond.classLink (jo I) idx "[I" ∈ jv_gw) (d : decode (jb I) pc = .ok (.anewarray idx, 3)) (hN : N < 100000) {k2 z2 : Nat} (hk : 1 + k2 ≤ k) (hz : N + z2 ≤ z)
    (kk : ∀ sh1, nw n sh V (15, N, fun _ => none) (V n) sh1 V → jv_J g X I (pc + 3) ls (jv_r g n :: stk) (n + 1) sh1 V L k2 z2) : jv_J g X I pc ls (.int (nI N) :: stk) n sh V L k z :=
  jv_anewA hl d hN hk hz (kk _ nw.ofS)
theorem jr_anewR {N idx : Nat} (hl : Cond.classLink (jo I) idx "RumourPipesLaw$Rumour" ∈ jv_gw) (d : decode (jb I) pc = .ok (.anewarray idx, 3)) (hN : N < 100000) {k2 z2 : Nat} (hk : 1 + k2 ≤ k) (hz : N + z2 ≤ z)
    (kk : ∀ sh1, nw n sh V (12, N, fun _ => none) (V n) sh1 V → jv_J g X I (pc + 3) ls (jv_r g n :: stk) (n + 1) sh1 V L k2 z2) : jv_J g X I pc ls (.int (nI N) :: stk) n sh V L k z :=
  jv_anew (t := 2) (C := "RumourPipesLaw$Rumour") (fun _ => rfl) (by decide) (by decide) (fun U h => h.2.2.2.2.2.1.1.2) hl d hN hk hz (kk _ nw.ofS)
theorem jr_aastA {N i q qv : Nat} (d : decode (jb I) pc = .ok (.aastore, 1)) (hs : (sh q).1 = 15) (hN : (sh q).2.1 = N) (hi : i < N) (hN2 : N < 2 ^ 31) (hv : (sh qv).1 = 10)
    (kk : ∀ sh1, st sh q i qv sh1 → jv_J g X I (pc + 1) ls stk n sh1 V L k z) : jv_J g X I pc ls (jv_r g qv :: .int (nI i) :: jv_r g q :: stk) n sh V L k z :=
  jv_aastA d hs hN hi hN2 hv (kk _ st.of)
theorem jr_aastR {N i q qv : Nat} (d : decode (jb I) pc = .ok (.aastore, 1)) (hs : (sh q).1 = 12) (hN : (sh q).2.1 = N) (hi : i < N) (hN2 : N < 2 ^ 31) (hv : (sh qv).1 = 6)
    (kk : ∀ sh1, st sh q i qv sh1 → jv_J g X I (pc + 1) ls stk n sh1 V L k z) : jv_J g X I pc ls (jv_r g qv :: .int (nI i) :: jv_r g q :: stk) n sh V L k z :=
  jv_aast (t := 2) jv_cls5 (fun _ => rfl) (by decide) (by decide) d hs hN hi hN2 hv (kk _ st.of)
theorem jr_aaldA {q i N q2 : Nat} (d : decode (jb I) pc = .ok (.aaload, 1)) (hs : (sh q).1 = 15) (hN : (sh q).2.1 = N) (hi : i < N) (hN2 : N < 2 ^ 31) (hr : (sh q).2.2 i = some q2)
    (kk : jv_J g X I (pc + 1) ls (jv_r g q2 :: stk) n sh V L k z) : jv_J g X I pc ls (.int (nI i) :: jv_r g q :: stk) n sh V L k z :=
  jv_aald (t := 5) (fun _ => rfl) rfl (by decide) (by decide) d hs hN hi hN2 hr kk
theorem jr_aaldR {q i N q2 : Nat} (d : decode (jb I) pc = .ok (.aaload, 1)) (hs : (sh q).1 = 12) (hN : (sh q).2.1 = N) (hi : i < N) (hN2 : N < 2 ^ 31) (hr : (sh q).2.2 i = some q2)
    (kk : jv_J g X I (pc + 1) ls (jv_r g q2 :: stk) n sh V L k z) : jv_J g X I pc ls (.int (nI i) :: jv_r g q :: stk) n sh V L k z :=
  jv_aald (t := 2) (fun _ => rfl) rfl (by decide) (by decide) d hs hN hi hN2 hr kk
theorem jr_alenA {q N : Nat} (d : decode (jb I) pc = .ok (.arraylength, 1)) (hs : (sh q).1 = 15) (hN : (sh q).2.1 = N)
    (kk : jv_J g X I (pc + 1) ls (.int (nI N) :: stk) n sh V L k z) : jv_J g X I pc ls (jv_r g q :: stk) n sh V L k z :=
  jv_alenR (t := 5) (fun _ => rfl) (by decide) (by decide) d hs hN kk
theorem jr_alenR {q N : Nat} (d : decode (jb I) pc = .ok (.arraylength, 1)) (hs : (sh q).1 = 12) (hN : (sh q).2.1 = N)
    (kk : jv_J g X I (pc + 1) ls (.int (nI N) :: stk) n sh V L k z) : jv_J g X I pc ls (jv_r g q :: stk) n sh V L k z :=
  jv_alenR (t := 2) (fun _ => rfl) (by decide) (by decide) d hs hN kk
/-- more room than a walk needs -/
theorem jv_less {k2 z2 : Nat} (hk : k2 ≤ k) (hz : z2 ≤ z) (h : jv_J g X I pc ls stk n sh V L k2 z2) : jv_J g X I pc ls stk n sh V L k z := by
  obtain ⟨p, l, e, R, s, m, args, below, meth, cd, Q⟩ := X
  intro hC lsA H locs cells slots hP hS hl0 hcc hss
  exact h hC lsA H locs cells slots hP hS hl0 (by omega) (by omega)
end JVD
/-! the script -/
section JVSC
variable {g : jv_G} {X : jv_X} {I : jv_I} {pc n : Nat} {ls rest : List (Option Value)} {stk : List Value} {sh : Nat → jv_S} {V : Nat → Nat → Int32} {L : Nat → Nat → Int64} {k z : Nat}
theorem jl_ld0 {b : Nat} (d : decode (jb I) pc = .ok (.aload_n 0, 1)) (kk : jv_J g X I (pc + 1) (some (.ref b) :: rest) (.ref b :: stk) n sh V L k z) : jv_J g X I pc (some (.ref b) :: rest) stk n sh V L k z := by
  obtain ⟨p, l, e, R, s, m, args, below, meth, c, Q⟩ := X
  intro hC lsA H locs cells slots hP hS hl hc hs
  exact lv_aload_n hC.1 hC.2.1 d rfl (jv_ld (v := Value.ref b) hl rfl) (kk hC lsA H locs cells slots hP hS hl hc hs)
theorem jl_ld1 {b : Nat} {v0 : Option Value} (d : decode (jb I) pc = .ok (.aload_n 1, 1)) (kk : jv_J g X I (pc + 1) (v0 :: some (.ref b) :: rest) (.ref b :: stk) n sh V L k z) : jv_J g X I pc (v0 :: some (.ref b) :: rest) stk n sh V L k z := by
  obtain ⟨p, l, e, R, s, m, args, below, meth, c, Q⟩ := X
  intro hC lsA H locs cells slots hP hS hl hc hs
  exact lv_aload_n hC.1 hC.2.1 d rfl (jv_ld (v := Value.ref b) hl rfl) (kk hC lsA H locs cells slots hP hS hl hc hs)
theorem jl_sld {j : Nat} (hj : j < scM g) (d : decode (jb I) pc = .ok (.iaload, 1)) (kk : jv_J g X I (pc + 1) ls (.int (scX g j) :: stk) n sh V L k z) : jv_J g X I pc ls (.int (nI j) :: .ref (scB g) :: stk) n sh V L k z := by
  obtain ⟨p, l, e, R, s, m, args, below, meth, c, Q⟩ := X
  intro hC lsA H locs cells slots hP hS hl hc hs
  obtain ⟨c1, c2, c3, c4, c5, c6, c7, c8, c9, c10, c11, c12, c13⟩ := id hC
  obtain ⟨x1, x2, x3⟩ := c10.2.2.2.2.2.1.2
  refine va_sld c1 c2 x1 (Nat.lt_of_lt_of_le x2 c10.2.2.2.1) (Nat.not_le.mpr x2) hS (vp_in_nI hj (by omega)) d ?_
  rw [nI_clamp (by omega)]
  exact kk hC lsA H locs cells slots hP hS hl hc hs
theorem jl_slen (d : decode (jb I) pc = .ok (.arraylength, 1)) (kk : scM g ≤ 260 → jv_J g X I (pc + 1) ls (.int (nI (scM g)) :: stk) n sh V L k z) : jv_J g X I pc ls (.ref (scB g) :: stk) n sh V L k z := by
  obtain ⟨p, l, e, R, s, m, args, below, meth, c, Q⟩ := X
  intro hC lsA H locs cells slots hP hS hl hc hs
  obtain ⟨c1, c2, c3, c4, c5, c6, c7, c8, c9, c10, c11, c12, c13⟩ := id hC
  obtain ⟨x1, x2, x3⟩ := c10.2.2.2.2.2.1.2
  exact va_slen c1 c2 x1 (Nat.lt_of_lt_of_le x2 c10.2.2.2.1) (Nat.not_le.mpr x2) hS d (kk x3 hC lsA H locs cells slots hP hS hl hc hs)
end JVSC
/-! the rows under way -/
abbrev WE : Type := Int32 × Int32 × Int32 × Int32
def rowAt (sh : Nat → jv_S) (V : Nat → Nat → Int32) (e : Nat) (x : WE) : Prop := (sh e).1 = 10 ∧ (sh e).2.1 = 4 ∧ V e 0 = x.1 ∧ V e 1 = x.2.1 ∧ V e 2 = x.2.2.1 ∧ V e 3 = x.2.2.2
/-- the row w of rows holds the list l, its rows at places of the kind E -/
def WL (E : Nat → Prop) (n : Nat) (sh : Nat → jv_S) (V : Nat → Nat → Int32) (w : Nat) (l : List WE) : Prop := (sh w).1 = 15 ∧ (sh w).2.1 = l.length ∧ w < n ∧ ∀ i x, l[i]? = some x → ∃ e, (sh w).2.2 i = some e ∧ e < n ∧ E e ∧ rowAt sh V e x
theorem WL.at {E : Nat → Prop} {n w i : Nat} {sh : Nat → jv_S} {V : Nat → Nat → Int32} {l : List WE} (h : WL E n sh V w l) (hi : i < l.length) : ∃ x e, l[i]? = some x ∧ (sh w).2.2 i = some e ∧ e < n ∧ E e ∧ rowAt sh V e x := by
  obtain ⟨e, h1⟩ := h.2.2.2 i _ (List.getElem?_eq_getElem hi)
  exact ⟨_, e, List.getElem?_eq_getElem hi, h1⟩
