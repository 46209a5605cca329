/-! ===== fields, arrays, new objects over the flat machine ===== -/
def jv_cls (c : Nat) (C : String) (T : u_T) (N : Nat) (ty : Nat → FieldType) : Prop :=
  vwCl[c]? = some (C, T, N) ∧ (∀ w ∈ u_ws C T N, w ∈ jv_gw) ∧ (∀ k, k < N → parseFieldDescriptor (T k).2.2.1 = some (ty k)) ∧ (∀ a, a < N → ∀ b, b < N → a ≠ b → (T a).2.1 ≠ (T b).2.1) ∧ N = jv_N c ∧ c < 7 ∧ (∀ k, k < N → (T k).1 = C)
section JVH
variable {g : jv_G} {X : jv_X} {I : jv_I} {pc n : Nat} {ls : List (Option Value)} {st : List Value} {sh : Nat → jv_S} {V : Nat → Nat → Int32} {L : Nat → Nat → Int64} {k z : Nat}
theorem jv_getv {c N idx fk q : Nat} {C : String} {T : u_T} {ty : Nat → FieldType} {v : Value} (hc : jv_cls c C T N ty) (hfk : fk < N)
    (hl : Cond.fieldLink (jo I) idx C (T fk).2.1 (T fk).2.2.1 ∈ jv_gw ∨ Cond.fieldLinkNest (jo I) idx C (T fk).2.1 (T fk).2.2.1 "RumourPipes" ∈ jv_nst) (hs : (sh q).1 = c + 1)
    (hv : (if jv_isR c fk then jv_rv g.1 ((sh q).2.2 fk) else .int (V q fk)) = v) (d : decode (jb I) pc = .ok (.getfield idx, 3))
    (kk : jv_J g X I (pc + 3) ls (v :: st) n sh V L k z) : jv_J g X I pc ls (jv_r g q :: st) n sh V L k z := by
  obtain ⟨p, l, e, R, s, m, args, below, meth, cd, Q⟩ := X
  intro hC lsA H locs cells slots hP hS hl0 hcc hss
  obtain ⟨h1, h2, h3, h4, h5, h6, h7⟩ := hc
  have he := hP.2.2 q _ (jv_ent_o hs h6)
  have hv' : (jv_fs g.1 c (sh q).2.2 (V q))[fk]? = some v := by rw [jv_fs_at (by rw [← h5]; exact hfk), hv]
  obtain ⟨c1, c2, c3, c4, c5, c6, c7, c8, c9, c10, c11, c12, c13⟩ := id hC
  rcases hl with hl | hl
  · exact va_get (C := C) (T := T) (N := N) (ref := C) c1 c2 c5 h2 c4 c10.1 (jv_P.one he) 0 rfl h1 fk hfk (c5 _ hl) (fun x hx => by rw [h7 fk hfk] at hx; exact hx) hv' d (kk hC lsA H locs cells slots hP hS hl0 hcc hss)
  · exact va_getN (C := C) (T := T) (N := N) (ref := C) c1 c2 c5 h2 c4 c10.1 (jv_P.one he) 0 rfl h1 fk hfk (va_Nw.use rfl (c10.2.2.2.2.2.2.2.2.1 _ hl)) (fun x hx => by rw [h7 fk hfk] at hx; exact hx) hv' d (kk hC lsA H locs cells slots hP hS hl0 hcc hss)
theorem jv_geti {c N idx fk q : Nat} {C : String} {T : u_T} {ty : Nat → FieldType} (hc : jv_cls c C T N ty) (hfk : fk < N)
    (hl : Cond.fieldLink (jo I) idx C (T fk).2.1 (T fk).2.2.1 ∈ jv_gw ∨ Cond.fieldLinkNest (jo I) idx C (T fk).2.1 (T fk).2.2.1 "RumourPipes" ∈ jv_nst) (hR : jv_isR c fk = false) (d : decode (jb I) pc = .ok (.getfield idx, 3)) (hs : (sh q).1 = c + 1)
    (kk : jv_J g X I (pc + 3) ls (.int (V q fk) :: st) n sh V L k z) : jv_J g X I pc ls (jv_r g q :: st) n sh V L k z := jv_getv hc hfk hl hs (by rw [hR]; rfl) d kk
theorem jv_getr {c N idx fk q q2 : Nat} {C : String} {T : u_T} {ty : Nat → FieldType} (hc : jv_cls c C T N ty) (hfk : fk < N)
    (hl : Cond.fieldLink (jo I) idx C (T fk).2.1 (T fk).2.2.1 ∈ jv_gw ∨ Cond.fieldLinkNest (jo I) idx C (T fk).2.1 (T fk).2.2.1 "RumourPipes" ∈ jv_nst) (hR : jv_isR c fk = true) (d : decode (jb I) pc = .ok (.getfield idx, 3)) (hs : (sh q).1 = c + 1) (hr : (sh q).2.2 fk = some q2)
    (kk : jv_J g X I (pc + 3) ls (jv_r g q2 :: st) n sh V L k z) : jv_J g X I pc ls (jv_r g q :: st) n sh V L k z := jv_getv hc hfk hl hs (by rw [hR, hr]; rfl) d kk
theorem jv_U_self (V : Nat → Nat → Int32) (p i : Nat) (x : Int32) : jv_U V p i x p = fun j => if j = i then x else V p j := by
  funext j
  unfold jv_U
  rw [if_pos rfl]
theorem jv_U_other {V : Nat → Nat → Int32} {p i q : Nat} {x : Int32} (h : q ≠ p) : jv_U V p i x q = V q := by
  funext j
  unfold jv_U
  rw [if_neg h]
theorem jv_US_self (sh : Nat → jv_S) (p i q2 : Nat) : jv_US sh p i q2 p = ((sh p).1, (sh p).2.1, fun j => if j = i then some q2 else (sh p).2.2 j) := by
  unfold jv_US
  rw [if_pos rfl]
theorem jv_US_other {sh : Nat → jv_S} {p i q2 q : Nat} (h : q ≠ p) : jv_US sh p i q2 q = sh q := by
  unfold jv_US
  rw [if_neg h]
theorem jv_puti {c N idx fk q : Nat} {C : String} {T : u_T} {ty : Nat → FieldType} {x : Int32} (hc : jv_cls c C T N ty) (hfk : fk < N)
    (hl : Cond.fieldLink (jo I) idx C (T fk).2.1 (T fk).2.2.1 ∈ jv_gw ∨ Cond.fieldLinkNest (jo I) idx C (T fk).2.1 (T fk).2.2.1 "RumourPipes" ∈ jv_nst) (hR : jv_isR c fk = false) (hfin : (T fk).2.2.2 = false) (d : decode (jb I) pc = .ok (.putfield idx, 3)) (hn : narrow (ty fk) (.int x) = .int x) (hfit : fits (ty fk) (.int x) = true) (hs : (sh q).1 = c + 1)
    (kk : jv_J g X I (pc + 3) ls st n sh (jv_U V q fk x) L k z) : jv_J g X I pc ls (.int x :: jv_r g q :: st) n sh V L k z := by
  obtain ⟨p, l, e, R, s, m, args, below, meth, cd, Q⟩ := X
  intro hC lsA H locs cells slots hP hS hl0 hcc hss
  obtain ⟨h1, h2, h3, h4, h5, h6, h7⟩ := hc
  have he := hP.2.2 q _ (jv_ent_o hs h6)
  obtain ⟨c1, c2, c3, c4, c5, c6, c7, c8, c9, c10, c11, c12, c13⟩ := id hC
  have hK := c10.1
  have hap := va_apart (own := jo I) c5 h2 ty h3 h4 hK h1
  obtain ⟨r, e1, cell, q1, q2, q3, q4⟩ := he
  have hr : r = (C, T, N) := Option.some.inj (e1.symm.trans h1)
  subst hr
  obtain ⟨hSl, hfc, kC, hkC, hkind⟩ := hK.1 c _ h1
  obtain ⟨cf, kf, fi, f, hi, hsl⟩ := hSl fk hfk
  have hlay := c5 _ (h2 _ (u_in_lay hfk))
  unfold u_lay at hlay
  rw [if_neg (by rw [hfin]; decide)] at hlay
  have hst := (u_facts hfc hkC (u_lays c5 h2 hfk) hi).1
  have h9 := u_store hfc hkC hkind hlay hi (h3 fk hfk) hn hfit
  have hi' := hi
  rw [h7 fk hfk] at hi'
  have fin : ∀ H' : Heap, H'[g.1 + q]? = some (cell.setSlot f.slot (.int x)) → H'.size = H.size → (∀ a, a ≠ g.1 + q → H'[a]? = H[a]?) → W p l e R s m args below meth cd H' (locs ++ [⟨g.1 + q, f.slot⟩]) cells slots Q (F0 m (pc + 3) lsA st) := by
    intro H' f1 f2 f3
    refine kk hC lsA H' _ cells slots (hP.put f2 f3 (by omega) (fun e0 he0 => ?_) (fun a ha => ⟨rfl, jv_U_other ha, rfl⟩)) (hS.put f2 f3 (Nat.le_add_right _ _)) hl0 hcc hss
    rw [jv_ent_o hs h6, jv_U_self, ← jv_fs_int hR] at he0
    cases he0
    rw [hsl] at f1
    refine ⟨_, h1, t_OB.to (V := updV (vp_V (jv_fs g.1 c (sh q).2.2 (V q))) fk (.int x)) ⟨_, f1, q2, q3, t_set q4 hap hfk _⟩ (fun j _ => vp_updV_set (by rw [jv_fs_len, ← h5]; exact hfk) _ j)⟩
  rcases hl with hl | hl
  · exact W.putK c1 c2 (f := f) ⟨c4, c5 _ hl, ⟨_, _, _, hi'⟩, hst⟩ (by rw [q2]; exact h9) q1 q3 (by rw [hsl]; exact k2_hasslot (q4 fk hfk)) rfl rfl d fin
  · exact va_WputK c1 c2 (f := f) c4 (va_Nw.use rfl (c10.2.2.2.2.2.2.2.2.1 _ hl)) hi' hst (by rw [q2]; exact h9) q1 q3 (by rw [hsl]; exact k2_hasslot (q4 fk hfk)) rfl rfl d fin
theorem jv_putr {c N idx fk q qr : Nat} {C : String} {T : u_T} {ty : Nat → FieldType} (hc : jv_cls c C T N ty) (hfk : fk < N)
    (hl : Cond.fieldLink (jo I) idx C (T fk).2.1 (T fk).2.2.1 ∈ jv_gw) (hR : jv_isR c fk = true) (hfin : (T fk).2.2.2 = true) (d : decode (jb I) pc = .ok (.putfield idx, 3)) (hn : ∀ a, narrow (ty fk) (.ref a) = .ref a) (hfit : ∀ a, fits (ty fk) (.ref a) = true) (hin : (jy I).name = "<init>") (ho : jo I = C) (hs : (sh q).1 = c + 1)
    (kk : jv_J g X I (pc + 3) ls st n (jv_US sh q fk qr) V L k z) : jv_J g X I pc ls (jv_r g qr :: jv_r g q :: st) n sh V L k z := by
  obtain ⟨p, l, e, R, s, m, args, below, meth, cd, Q⟩ := X
  intro hC lsA H locs cells slots hP hS hl0 hcc hss
  obtain ⟨h1, h2, h3, h4, h5, h6, h7⟩ := hc
  have he := hP.2.2 q _ (jv_ent_o hs h6)
  obtain ⟨c1, c2, c3, c4, c5, c6, c7, c8, c9, c10, c11, c12, c13⟩ := id hC
  have hK := c10.1
  have hap := va_apart (own := jo I) c5 h2 ty h3 h4 hK h1
  obtain ⟨r, e1, cell, q1, q2, q3, q4⟩ := he
  have hr : r = (C, T, N) := Option.some.inj (e1.symm.trans h1)
  subst hr
  obtain ⟨hSl, hfc, kC, hkC, hkind⟩ := hK.1 c _ h1
  obtain ⟨cf, kf, fi, f, hi, hsl⟩ := hSl fk hfk
  have hlay := c5 _ (h2 _ (u_in_lay hfk))
  unfold u_lay at hlay
  rw [if_pos hfin] at hlay
  have hst := (u_facts hfc hkC (u_lays c5 h2 hfk) hi).1
  have hcf : m.cls = cf := by
    obtain ⟨_, _, c', _, _, _, -, -, hf', -, -, -, hown2, -⟩ := Cond.laysFinal_spec hlay
    have e1 : c' = cf := by have := hi.symm.trans hf'; simp at this; exact this.1.symm
    rw [h7 fk hfk, ← ho] at hown2
    rw [← e1]; exact Option.some.inj (c4.symm.trans hown2)
  have h9 := u_fits hfc hkC hkind (Or.inr hlay) hi (h3 fk hfk) (hn (g.1 + qr)) (hfit (g.1 + qr))
  have hi' := hi
  rw [h7 fk hfk] at hi'
  refine W.putFinK c1 c2 c4 (c5 _ hl) hi' hst hcf (by rw [c8]; exact hin) (by rw [q2]; exact h9) q1 q3 (by rw [hsl]; exact k2_hasslot (q4 fk hfk)) rfl rfl d fun H' f1 f2 f3 => ?_
  refine kk hC lsA H' _ cells slots (hP.put f2 f3 (by omega) (fun e0 he0 => ?_) (fun a ha => ⟨jv_US_other ha, rfl, rfl⟩)) (hS.put f2 f3 (Nat.le_add_right _ _)) hl0 hcc hss
  rw [jv_ent_o (c := c) (by rw [jv_US_self]; exact hs) h6, jv_US_self, ← jv_fs_ref hR] at he0
  cases he0
  rw [hsl] at f1
  exact ⟨_, h1, t_OB.to (V := updV (vp_V (jv_fs g.1 c (sh q).2.2 (V q))) fk (.ref (g.1 + qr))) ⟨_, f1, q2, q3, t_set q4 hap hfk _⟩ (fun j _ => vp_updV_set (by rw [jv_fs_len, ← h5]; exact hfk) _ j)⟩
/-! arrays -/
theorem j_iald {q i N : Nat} (d : decode (jb I) pc = .ok (.iaload, 1)) (hs : (sh q).1 = 10) (hN : (sh q).2.1 = N) (hi : i < N) (hN2 : N < 2 ^ 31)
    (kk : jv_J g X I (pc + 1) ls (.int (V q i) :: st) n sh V L k z) : jv_J g X I pc ls (.int (nI i) :: jv_r g q :: st) n sh V L k z := by
  obtain ⟨p, l, e, R, s, m, args, below, meth, cd, Q⟩ := X
  intro hC lsA H locs cells slots hP hS hl0 hcc hss
  have he := hP.2.2 q _ (jv_ent_i hs)
  obtain ⟨c1, c2, c3, c4, c5, c6, c7, c8, c9, c10, c11, c12, c13⟩ := id hC
  refine va_iald c1 c2 c10.1 (jv_P.one he) 0 0 rfl rfl (by rw [hN]; exact vp_in_nI hi hN2) d ?_
  rw [nI_clamp (by omega)]
  exact kk hC lsA H locs cells slots hP hS hl0 hcc hss
theorem j_bald {q i N : Nat} (d : decode (jb I) pc = .ok (.baload, 1)) (hs : (sh q).1 = 11) (hN : (sh q).2.1 = N) (hi : i < N) (hN2 : N < 2 ^ 31)
    (kk : jv_J g X I (pc + 1) ls (.int (V q i) :: st) n sh V L k z) : jv_J g X I pc ls (.int (nI i) :: jv_r g q :: st) n sh V L k z := by
  obtain ⟨p, l, e, R, s, m, args, below, meth, cd, Q⟩ := X
  intro hC lsA H locs cells slots hP hS hl0 hcc hss
  have he := hP.2.2 q _ (jv_ent_z hs)
  obtain ⟨c1, c2, c3, c4, c5, c6, c7, c8, c9, c10, c11, c12, c13⟩ := id hC
  refine va_zald c1 c2 c10.1 (jv_P.one he) 0 1 rfl rfl (by rw [hN]; exact vp_in_nI hi hN2) d ?_
  rw [nI_clamp (by omega)]
  exact kk hC lsA H locs cells slots hP hS hl0 hcc hss
theorem jv_aald {q i N t q2 : Nat} {ty : FieldType} (ht : ∀ g : jv_G, (jv_tys g)[t]? = some (g.2.2 t, ty)) (hty : ty.isReference = true) (h3 : 2 ≤ t) (h5 : t ≤ 5) (d : decode (jb I) pc = .ok (.aaload, 1)) (hs : (sh q).1 = t + 10) (hN : (sh q).2.1 = N) (hi : i < N) (hN2 : N < 2 ^ 31) (hr : (sh q).2.2 i = some q2)
    (kk : jv_J g X I (pc + 1) ls (jv_r g q2 :: st) n sh V L k z) : jv_J g X I pc ls (.int (nI i) :: jv_r g q :: st) n sh V L k z := by
  obtain ⟨p, l, e, R, s, m, args, below, meth, cd, Q⟩ := X
  intro hC lsA H locs cells slots hP hS hl0 hcc hss
  have he := hP.2.2 q _ (jv_ent_r hs h3 h5)
  obtain ⟨c1, c2, c3, c4, c5, c6, c7, c8, c9, c10, c11, c12, c13⟩ := id hC
  have hin : vp_in (nI i) (sh q).2.1 := by rw [hN]; exact vp_in_nI hi hN2
  have hcl : (nI i).toNatClampNeg = i := nI_clamp (by omega)
  refine W.aald (v := .ref (g.1 + q2)) (ty := ty) c1 c2 he ((c10.1.2 t _ (ht g)).1 (sh q).2.1 (fun j => va_rf (((sh q).2.2 j).map (fun q => g.1 + q)))) hty (fun h => by cases h) (by show ¬ (_ ∨ (arrV _ _ _).slots.size ≤ _); rw [arrV_size]; exact hin) (by show (arrV _ _ _).slots[_]? = _; rw [arrV_read _ _ (by rw [hcl, hN]; exact hi)]; show some (va_rf (((sh q).2.2 (nI i).toNatClampNeg).map (fun q => g.1 + q))) = _; rw [hcl, hr]; rfl) rfl rfl d ?_
  exact kk hC lsA H locs cells slots hP hS hl0 hcc hss
theorem j_iast {q i N : Nat} {x : Int32} (d : decode (jb I) pc = .ok (.iastore, 1)) (hs : (sh q).1 = 10) (hN : (sh q).2.1 = N) (hi : i < N) (hN2 : N < 2 ^ 31)
    (kk : jv_J g X I (pc + 1) ls st n sh (jv_U V q i x) L k z) : jv_J g X I pc ls (.int x :: .int (nI i) :: jv_r g q :: st) n sh V L k z := by
  obtain ⟨p, l, e, R, s, m, args, below, meth, cd, Q⟩ := X
  intro hC lsA H locs cells slots hP hS hl0 hcc hss
  have he := hP.2.2 q _ (jv_ent_i hs)
  obtain ⟨c1, c2, c3, c4, c5, c6, c7, c8, c9, c10, c11, c12, c13⟩ := id hC
  have hin : vp_in (nI i) (sh q).2.1 := by rw [hN]; exact vp_in_nI hi hN2
  have hcl : (nI i).toNatClampNeg = i := nI_clamp (by omega)
  refine W.iast c1 c2 he ((c10.1.2 0 _ rfl).1 (sh q).2.1 (fun j => .int (V q j))) (fun h => by cases h) (by show ¬ (_ ∨ (arrV _ _ _).slots.size ≤ _); rw [arrV_size]; exact hin) rfl rfl d fun H1 e1 e2 e3 => ?_
  rw [hcl] at e1 ⊢
  refine kk hC lsA H1 _ cells slots (hP.put e2 e3 (by omega) (fun e0 he0 => ?_) (fun a ha => ⟨rfl, jv_U_other ha, rfl⟩)) (hS.put e2 e3 (Nat.le_add_right _ _)) hl0 hcc hss
  rw [jv_ent_i hs, jv_U_self] at he0
  cases he0
  show H1[g.1 + q]? = some (vp_cell _ _)
  rw [e1, vp_cell_i, vp_cell_i, arrV_store]
  congr 2
  funext j
  by_cases hj : j = i
  · subst hj; simp [updV]
  · simp [updV, hj]
theorem j_bast {q i N : Nat} {x : Int32} (d : decode (jb I) pc = .ok (.bastore, 1)) (hx : narrow .boolean (.int x) = .int x) (hs : (sh q).1 = 11) (hN : (sh q).2.1 = N) (hi : i < N) (hN2 : N < 2 ^ 31)
    (kk : jv_J g X I (pc + 1) ls st n sh (jv_U V q i x) L k z) : jv_J g X I pc ls (.int x :: .int (nI i) :: jv_r g q :: st) n sh V L k z := by
  obtain ⟨p, l, e, R, s, m, args, below, meth, cd, Q⟩ := X
  intro hC lsA H locs cells slots hP hS hl0 hcc hss
  have he := hP.2.2 q _ (jv_ent_z hs)
  obtain ⟨c1, c2, c3, c4, c5, c6, c7, c8, c9, c10, c11, c12, c13⟩ := id hC
  have hin : vp_in (nI i) (sh q).2.1 := by rw [hN]; exact vp_in_nI hi hN2
  have hcl : (nI i).toNatClampNeg = i := nI_clamp (by omega)
  refine W.zast c1 c2 he ((c10.1.2 1 _ rfl).1 (sh q).2.1 (fun j => .int (V q j))) (fun h => by cases h) (by show ¬ (_ ∨ (arrV _ _ _).slots.size ≤ _); rw [arrV_size]; exact hin) rfl rfl d fun H1 e1 e2 e3 => ?_
  rw [hcl, hx] at e1
  rw [hcl]
  refine kk hC lsA H1 _ cells slots (hP.put e2 e3 (by omega) (fun e0 he0 => ?_) (fun a ha => ⟨rfl, jv_U_other ha, rfl⟩)) (hS.put e2 e3 (Nat.le_add_right _ _)) hl0 hcc hss
  rw [jv_ent_z hs, jv_U_self] at he0
  cases he0
  show H1[g.1 + q]? = some (vp_cell _ _)
  rw [e1, vp_cell_i, vp_cell_i, arrV_store]
  congr 2
  funext j
  by_cases hj : j = i
  · subst hj; simp [updV]
  · simp [updV, hj]
theorem j_alen {q N : Nat} (d : decode (jb I) pc = .ok (.arraylength, 1)) (hs : (sh q).1 = 10) (hN : (sh q).2.1 = N)
    (kk : jv_J g X I (pc + 1) ls (.int (nI N) :: st) n sh V L k z) : jv_J g X I pc ls (jv_r g q :: st) n sh V L k z := by
  obtain ⟨p, l, e, R, s, m, args, below, meth, cd, Q⟩ := X
  intro hC lsA H locs cells slots hP hS hl0 hcc hss
  have he := hP.2.2 q _ (jv_ent_i hs)
  obtain ⟨c1, c2, c3, c4, c5, c6, c7, c8, c9, c10, c11, c12, c13⟩ := id hC
  exact va_alen c1 c2 c10.1 (jv_P.one he) 0 0 rfl rfl (show Int32.ofNat (sh q).2.1 = nI N by rw [hN]; rfl) d (kk hC lsA H locs cells slots hP hS hl0 hcc hss)
theorem j_alenZ {q N : Nat} (d : decode (jb I) pc = .ok (.arraylength, 1)) (hs : (sh q).1 = 11) (hN : (sh q).2.1 = N)
    (kk : jv_J g X I (pc + 1) ls (.int (nI N) :: st) n sh V L k z) : jv_J g X I pc ls (jv_r g q :: st) n sh V L k z := by
  obtain ⟨p, l, e, R, s, m, args, below, meth, cd, Q⟩ := X
  intro hC lsA H locs cells slots hP hS hl0 hcc hss
  have he := hP.2.2 q _ (jv_ent_z hs)
  obtain ⟨c1, c2, c3, c4, c5, c6, c7, c8, c9, c10, c11, c12, c13⟩ := id hC
  exact va_alen c1 c2 c10.1 (jv_P.one he) 0 1 rfl rfl (show Int32.ofNat (sh q).2.1 = nI N by rw [hN]; rfl) d (kk hC lsA H locs cells slots hP hS hl0 hcc hss)
theorem jv_alenR {q N t : Nat} {ty : FieldType} (ht : ∀ g : jv_G, (jv_tys g)[t]? = some (g.2.2 t, ty)) (h3 : 2 ≤ t) (h5 : t ≤ 5) (d : decode (jb I) pc = .ok (.arraylength, 1)) (hs : (sh q).1 = t + 10) (hN : (sh q).2.1 = N)
    (kk : jv_J g X I (pc + 1) ls (.int (nI N) :: st) n sh V L k z) : jv_J g X I pc ls (jv_r g q :: st) n sh V L k z := by
  obtain ⟨p, l, e, R, s, m, args, below, meth, cd, Q⟩ := X
  intro hC lsA H locs cells slots hP hS hl0 hcc hss
  have he := hP.2.2 q _ (jv_ent_r hs h3 h5)
  obtain ⟨c1, c2, c3, c4, c5, c6, c7, c8, c9, c10, c11, c12, c13⟩ := id hC
  exact va_alen c1 c2 c10.1 (jv_P.one he) 0 t rfl (ht g) (show Int32.ofNat (sh q).2.1 = nI N by rw [hN]; rfl) d (kk hC lsA H locs cells slots hP hS hl0 hcc hss)
/-- a reference put into a field that isn't final -/
theorem jv_putq {c N idx fk q qr : Nat} {C : String} {T : u_T} {ty : Nat → FieldType} (hc : jv_cls c C T N ty) (hfk : fk < N)
    (hl : Cond.fieldLink (jo I) idx C (T fk).2.1 (T fk).2.2.1 ∈ jv_gw) (hR : jv_isR c fk = true) (hfin : (T fk).2.2.2 = false) (d : decode (jb I) pc = .ok (.putfield idx, 3)) (hn : ∀ a, narrow (ty fk) (.ref a) = .ref a) (hfit : ∀ a, fits (ty fk) (.ref a) = true) (hs : (sh q).1 = c + 1)
    (kk : jv_J g X I (pc + 3) ls st n (jv_US sh q fk qr) V L k z) : jv_J g X I pc ls (jv_r g qr :: jv_r g q :: st) n sh V L k z := by
  obtain ⟨p, l, e, R, s, m, args, below, meth, cd, Q⟩ := X
  intro hC lsA H locs cells slots hP hS hl0 hcc hss
  obtain ⟨h1, h2, h3, h4, h5, h6, h7⟩ := hc
  have he := hP.2.2 q _ (jv_ent_o hs h6)
  obtain ⟨c1, c2, c3, c4, c5, c6, c7, c8, c9, c10, c11, c12, c13⟩ := id hC
  have hK := c10.1
  have hap := va_apart (own := jo I) c5 h2 ty h3 h4 hK h1
  obtain ⟨r, e1, cell, q1, q2, q3, q4⟩ := he
  have hr : r = (C, T, N) := Option.some.inj (e1.symm.trans h1)
  subst hr
  obtain ⟨hSl, hfc, kC, hkC, hkind⟩ := hK.1 c _ h1
  obtain ⟨cf, kf, fi, f, hi, hsl⟩ := hSl fk hfk
  have hlay := c5 _ (h2 _ (u_in_lay hfk))
  unfold u_lay at hlay
  rw [if_neg (by rw [hfin]; decide)] at hlay
  have hst := (u_facts hfc hkC (u_lays c5 h2 hfk) hi).1
  have h9 := u_store hfc hkC hkind hlay hi (h3 fk hfk) (hn (g.1 + qr)) (hfit (g.1 + qr))
  have hi' := hi
  rw [h7 fk hfk] at hi'
  have fin : ∀ H' : Heap, H'[g.1 + q]? = some (cell.setSlot f.slot (.ref (g.1 + qr))) → H'.size = H.size → (∀ a, a ≠ g.1 + q → H'[a]? = H[a]?) → W p l e R s m args below meth cd H' (locs ++ [⟨g.1 + q, f.slot⟩]) cells slots Q (F0 m (pc + 3) lsA st) := by
    intro H' f1 f2 f3
    refine kk hC lsA H' _ cells slots (hP.put f2 f3 (by omega) (fun e0 he0 => ?_) (fun a ha => ⟨jv_US_other ha, rfl, rfl⟩)) (hS.put f2 f3 (Nat.le_add_right _ _)) hl0 hcc hss
    rw [jv_ent_o (c := c) (by rw [jv_US_self]; exact hs) h6, jv_US_self, ← jv_fs_ref hR] at he0
    cases he0
    rw [hsl] at f1
    exact ⟨_, h1, t_OB.to (V := updV (vp_V (jv_fs g.1 c (sh q).2.2 (V q))) fk (.ref (g.1 + qr))) ⟨_, f1, q2, q3, t_set q4 hap hfk _⟩ (fun j _ => vp_updV_set (by rw [jv_fs_len, ← h5]; exact hfk) _ j)⟩
  exact W.putK c1 c2 (f := f) ⟨c4, c5 _ hl, ⟨_, _, _, hi'⟩, hst⟩ (by rw [q2]; exact h9) q1 q3 (by rw [hsl]; exact k2_hasslot (q4 fk hfk)) rfl rfl d fin
end JVH
