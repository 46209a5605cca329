/-! ===== a method's ends; new objects; the JDK's helpers ===== -/
section JVE
variable {g : jv_G} {X : jv_X} {I I' : jv_I} {pc n : Nat} {ls : List (Option Value)} {st rest : List Value} {sh : Nat → jv_S} {V : Nat → Nat → Int32} {L : Nat → Nat → Int64} {k z : Nat} {T : jv_T}
theorem j_iret {x : Int32} (hM : jv_M g X T) (d : decode (jb I) pc = .ok (.ireturn, 1)) (hr : jr I = some .int) (hT : T (.inl (some (.int x))) n sh V L) : jv_J g X I pc ls [.int x] n sh V L k z := by
  obtain ⟨p, l, e, R, s, m, args, below, meth, cd, Q⟩ := X
  intro hC lsA H locs cells slots hP hS hl0 hcc hss
  obtain ⟨c1, c2, c3, c4, c5, c6, c7, c8, c9, c10, c11, c12, c13⟩ := id hC
  have hQ : Q = vx_MQ below (jv_Q g T) (jv_XC g T) args s R.cells R.slots (fun q => g.1 ≤ q) := hM
  subst hQ
  refine vx_ret (W.widen (k := R.cells) (n := R.slots) (by omega) (by omega) ?_)
  exact W.iret (v := x) c1 c2 (by rw [c6]; exact hr) (fun t ht hW => ⟨_, n, sh, V, L, rfl, hT, by rw [ht]; exact hP, hS.F ht⟩) hS.2.2 d c7
theorem j_zret {x : Int32} (hM : jv_M g X T) (d : decode (jb I) pc = .ok (.ireturn, 1)) (hr : jr I = some .boolean) (hx : narrow .boolean (.int x) = .int x) (hT : T (.inl (some (.int x))) n sh V L) : jv_J g X I pc ls [.int x] n sh V L k z := by
  obtain ⟨p, l, e, R, s, m, args, below, meth, cd, Q⟩ := X
  intro hC lsA H locs cells slots hP hS hl0 hcc hss
  obtain ⟨c1, c2, c3, c4, c5, c6, c7, c8, c9, c10, c11, c12, c13⟩ := id hC
  have hQ : Q = vx_MQ below (jv_Q g T) (jv_XC g T) args s R.cells R.slots (fun q => g.1 ≤ q) := hM
  subst hQ
  refine vx_ret (W.widen (k := R.cells) (n := R.slots) (by omega) (by omega) ?_)
  exact W.zret (v := x) (ty := .boolean) c1 c2 (by rw [c6]; exact hr) hx (fun t ht hW => ⟨_, n, sh, V, L, rfl, hT, by rw [ht]; exact hP, hS.F ht⟩) hS.2.2 d c7
theorem j_lret {x : Int64} (hM : jv_M g X T) (d : decode (jb I) pc = .ok (.lreturn, 1)) (hr : jr I = some .long) (hT : T (.inl (some (.long x))) n sh V L) : jv_J g X I pc ls [.long x] n sh V L k z := by
  obtain ⟨p, l, e, R, s, m, args, below, meth, cd, Q⟩ := X
  intro hC lsA H locs cells slots hP hS hl0 hcc hss
  obtain ⟨c1, c2, c3, c4, c5, c6, c7, c8, c9, c10, c11, c12, c13⟩ := id hC
  have hQ : Q = vx_MQ below (jv_Q g T) (jv_XC g T) args s R.cells R.slots (fun q => g.1 ≤ q) := hM
  subst hQ
  refine vx_ret (W.widen (k := R.cells) (n := R.slots) (by omega) (by omega) ?_)
  exact W.lret (v := x) c1 c2 (by rw [c6]; exact hr) (fun t ht hW => ⟨_, n, sh, V, L, rfl, hT, by rw [ht]; exact hP, hS.F ht⟩) hS.2.2 d c7
theorem j_dret {x : UInt64} (hM : jv_M g X T) (d : decode (jb I) pc = .ok (.dreturn, 1)) (hr : jr I = some .double) (hT : T (.inl (some (.double x))) n sh V L) : jv_J g X I pc ls [.double x] n sh V L k z := by
  obtain ⟨p, l, e, R, s, m, args, below, meth, cd, Q⟩ := X
  intro hC lsA H locs cells slots hP hS hl0 hcc hss
  obtain ⟨c1, c2, c3, c4, c5, c6, c7, c8, c9, c10, c11, c12, c13⟩ := id hC
  have hQ : Q = vx_MQ below (jv_Q g T) (jv_XC g T) args s R.cells R.slots (fun q => g.1 ≤ q) := hM
  subst hQ
  refine vx_ret (W.widen (k := R.cells) (n := R.slots) (by omega) (by omega) ?_)
  exact W.dret (v := x) c1 c2 (by rw [c6]; exact hr) (fun t ht hW => ⟨_, n, sh, V, L, rfl, hT, by rw [ht]; exact hP, hS.F ht⟩) hS.2.2 d c7
theorem j_vret (hM : jv_M g X T) (d : decode (jb I) pc = .ok (.return_, 1)) (hr : jr I = none) (hT : T (.inl none) n sh V L) : jv_J g X I pc ls [] n sh V L k z := by
  obtain ⟨p, l, e, R, s, m, args, below, meth, cd, Q⟩ := X
  intro hC lsA H locs cells slots hP hS hl0 hcc hss
  obtain ⟨c1, c2, c3, c4, c5, c6, c7, c8, c9, c10, c11, c12, c13⟩ := id hC
  have hQ : Q = vx_MQ below (jv_Q g T) (jv_XC g T) args s R.cells R.slots (fun q => g.1 ≤ q) := hM
  subst hQ
  refine vx_ret (W.widen (k := R.cells) (n := R.slots) (by omega) (by omega) ?_)
  exact W.vret c1 c2 (by rw [c6]; exact hr) (fun t ht hW => ⟨_, n, sh, V, L, rfl, hT, by rw [ht]; exact hP, hS.F ht⟩) hS.2.2 d c7
/-- an exception goes on to the caller -/
theorem j_out {E : String} (hM : jv_M g X T) (hh : jh I = []) (hT : T (.inr E) n sh V L) : jv_Th g X I pc ls rest E n sh V L k z := by
  obtain ⟨p, l, e, R, s, m, args, below, meth, cd, Q⟩ := X
  intro hC lsA H locs cells slots q ce hP hS hl0 hcc hss hce hcv hcl
  obtain ⟨c1, c2, c3, c4, c5, c6, c7, c8, c9, c10, c11, c12, c13⟩ := id hC
  have hQ : Q = vx_MQ below (jv_Q g T) (jv_XC g T) args s R.cells R.slots (fun q => g.1 ≤ q) := hM
  subst hQ
  exact vx_out (by rw [c9, hh]; exact fun x hx => by cases hx) c7 hce hcv hcl (fun t ht _ => ⟨n, sh, V, L, hT, by rw [ht]; exact hP, hS.F ht⟩) hS.2.2 (by omega) (by omega)
/-- 'throw new E("text")' -/
theorem jv_throw {cls text : String} {ik is ic : Nat} (hM : jv_M g X T) (hh : jh I = []) (hcls : cls ∈ jv_exs) (hstr : (jo I, is, text) ∈ jv_strs) (hfit : Bundle.fit cls = true) (hlv : 7 ≤ jd I)
    (hk : Cond.classLink (jo I) ik cls ∈ jv_gw) (hini : Cond.initialized cls ∈ jv_gw) (hat : ∀ w ∈ (vx_atS (jo I) ic cls ["java/lang/RuntimeException", "java/lang/Exception"]).filter goodWord, w ∈ jv_gw)
    (hng : ∀ w ∈ (vx_atS (jo I) ic cls ["java/lang/RuntimeException", "java/lang/Exception"]).filter (fun w => !goodWord w), w ∈ jv_oth)
    (hgood : ∀ w ∈ Cond.classLink (jo I) ik cls :: Cond.initialized cls :: vx_atS (jo I) ic cls ["java/lang/RuntimeException", "java/lang/Exception"], vx_ot w = true)
    (d0 : decode (jb I) pc = .ok (.new ik, 3)) (d3 : decode (jb I) (pc + 3) = .ok (.dup, 1)) (dd : (decode (jb I) (pc + 4) = .ok (.ldc is, 2) ∧ decode (jb I) (pc + 6) = .ok (.invokespecial ic, 3) ∧ decode (jb I) (pc + 9) = .ok (.athrow, 1)) ∨ (decode (jb I) (pc + 4) = .ok (.ldc_w is, 3) ∧ decode (jb I) (pc + 7) = .ok (.invokespecial ic, 3) ∧ decode (jb I) (pc + 10) = .ok (.athrow, 1)))
    (hcat : (st.map fun v => v.category).sum ≤ 8) (hk1 : 1 ≤ k) (hz1 : 6 ≤ z) (hT : ∀ n', n ≤ n' → T (.inr cls) n' sh V L) : jv_J g X I pc ls st n sh V L k z := by
  obtain ⟨p, l, e, R, s, m, args, below, meth, cd, Q⟩ := X
  intro hC lsA H locs cells slots hP hS hl0 hcc hss
  obtain ⟨c1, c2, c3, c4, c5, c6, c7, c8, c9, c10, c11, c12, c13⟩ := id hC
  have hQ : Q = vx_MQ below (jv_Q g T) (jv_XC g T) args s R.cells R.slots (fun q => g.1 ≤ q) := hM
  subst hQ
  obtain ⟨sa, hsa⟩ := c10.2.2.2.2.1 _ hstr
  have hat' : ∀ w ∈ vx_atS (jo I) ic cls ["java/lang/RuntimeException", "java/lang/Exception"], w.before args s = true :=
    vx_hat (B := jv_oth) (fun w hw => c5 w (hat w hw)) hng (fun w hw => by
      have h9 := List.mem_filter.mp hw
      have h8 := h9.2
      refine va_Nw.use ?_ (c10.2.2.2.2.2.2.2.2.2.1 _ hw)
      unfold jv_isO at h8
      split at h8
      · rfl
      · rfl
      · cases h8)
  have hx : ∀ t : State, s.vm.Alike t.vm → H.size ≤ t.heap.size → (∀ q : Nat, q < H.size → t.heap[q]? = H[q]?) → jv_XC g T cls s t := by
    intro t _ h1 h2
    obtain ⟨n', hn', hP'⟩ := hP.junk h1 h2
    refine ⟨n', sh, V, L, hT n' hn', hP', ⟨Nat.le_trans hS.1 h1, fun q hq hA => ?_⟩⟩
    rw [h2 q (Nat.lt_of_lt_of_le hq hS.1)]
    exact hS.2.1 q hq hA
  have hout : ∀ y, ∀ x ∈ cd.exceptionTable.toList, covers x y = false := fun y => by rw [c9, hh]; exact fun x hx => by cases hx
  rcases dd with ⟨d4, d6, d9⟩ | ⟨d4, d6, d9⟩
  · exact vx_throwS c1 c2 c11 c4 hfit (by decide) (c5 _ hk) (c5 _ hini) hsa hat' hgood c10.2.1 c10.2.2.1 hS (by rw [hl0.1, c3]) d0 d3 d4 d6 d9 (hout _) (by show 2 + 3 < R.frames; omega) (by show _ + (13 * (2 + 1) + 43) ≤ R.locals; omega) (by omega) (by omega) c7 hx hS.2.2 (by omega) (by omega)
  · exact vx_throwSW c1 c2 c11 c4 hfit (by decide) (c5 _ hk) (c5 _ hini) hsa hat' hgood c10.2.1 c10.2.2.1 hS (by rw [hl0.1, c3]) d0 d3 d4 d6 d9 (hout _) (by show 2 + 3 < R.frames; omega) (by show _ + (13 * (2 + 1) + 43) ≤ R.locals; omega) (by omega) (by omega) c7 hx hS.2.2 (by omega) (by omega)
/-- the exception caught is put away -/
theorem j_exst {q i : Nat} {v : Option Value} (d : decode (jb I) pc = .ok (.astore i, 2)) (hn : i < jn I) (hok : jv_ok ls i)
    (kk : jv_J g X I (pc + 2) (ls.set i (some (.ref q))) st n sh V L k z) : jv_J g X I pc ls (.ref q :: st) n sh V L k z := by
  obtain ⟨p, l, e, R, s, m, args, below, meth, cd, Q⟩ := X
  intro hC lsA H locs cells slots hP hS hl0 hcc hss
  refine lv_astore hC.1 hC.2.1 d hl0 hn rfl (fun ls1 hl1 => ?_)
  exact kk hC ls1 H locs cells slots hP hS (jv_st1 (ls := ls) (v := .ref q) (i := i) hok hl1) hcc hss
theorem j_exst_n {q : Nat} {i : Fin 4} (d : decode (jb I) pc = .ok (.astore_n i, 1)) (hn : (i : Nat) < jn I) (hok : jv_ok ls i)
    (kk : jv_J g X I (pc + 1) (ls.set i (some (.ref q))) st n sh V L k z) : jv_J g X I pc ls (.ref q :: st) n sh V L k z := by
  obtain ⟨p, l, e, R, s, m, args, below, meth, cd, Q⟩ := X
  intro hC lsA H locs cells slots hP hS hl0 hcc hss
  refine lv_astore_n hC.1 hC.2.1 d rfl hl0 hn rfl (fun ls1 hl1 => ?_)
  exact kk hC ls1 H locs cells slots hP hS (jv_st1 (ls := ls) (v := .ref q) (i := i) hok hl1) hcc hss
theorem j_objInit {idx q : Nat} (hl : Cond.methodLink (jo I) idx Lib.objectInit ∈ jv_gw) (hin : Cond.instanceMethod Lib.objectInit ∈ jv_gw) (hc : Cond.code Lib.objectInit ⟨#[0xb1]⟩ 1 none ∈ jv_gw) (hlv : 1 ≤ jd I) (d : decode (jb I) pc = .ok (.invokespecial idx, 3)) (hcat : (st.map fun v => v.category).sum ≤ 8)
    (kk : jv_J g X I (pc + 3) ls st n sh V L k z) : jv_J g X I pc ls (jv_r g q :: st) n sh V L k z := by
  obtain ⟨p, l, e, R, s, m, args, below, meth, cd, Q⟩ := X
  intro hC lsA H locs cells slots hP hS hl0 hcc hss
  obtain ⟨c1, c2, c3, c4, c5, c6, c7, c8, c9, c10, c11, c12, c13⟩ := id hC
  exact W.objInit c1 c2 c4 (c5 _ hl) (c5 _ hin) (c5 _ hc) rfl (by rw [c3]; exact hl0.1) rfl d (by omega) (by show 2 * 0 + _ + 12 ≤ _; omega) (kk hC lsA H locs cells slots hP hS hl0 hcc hss)
theorem jv_NS_self (sh : Nat → jv_S) (p : Nat) (x : jv_S) : jv_NS sh p x p = x := if_pos rfl
theorem jv_NV_self (V : Nat → Nat → Int32) (p : Nat) (f : Nat → Int32) : jv_NV V p f p = f := if_pos rfl
theorem jv_NL_self (V : Nat → Nat → Int64) (p : Nat) (f : Nat → Int64) : jv_NL V p f p = f := if_pos rfl
theorem jv_S_new {A : Nat → Prop} {H0 H H1 : Heap} {locs : List Loc} (h : va_S A H0 H locs) (z : H1.size = H.size + 1) (o : ∀ q : Nat, q < H.size → H1[q]? = H[q]?) : va_S A H0 H1 locs :=
  ⟨Nat.le_trans h.1 (by omega), fun q h1 h2 => (o q (Nat.lt_of_lt_of_le h1 h.1)).trans (h.2.1 q h1 h2), h.2.2⟩
theorem jv_new {c N idx : Nat} {C : String} {F : u_T} {ty : Nat → FieldType} (hc : jv_cls c C F N ty) (hl : Cond.classLink (jo I) idx C ∈ jv_gw) (hins : Cond.instantiable C N ∈ jv_gw) (hini : Cond.initialized C ∈ jv_gw) (hdf : ∀ j, j < N → defaultValue (ty j) = if jv_isR c j then .null else .int 0) (d : decode (jb I) pc = .ok (.new idx, 3)) {k2 z2 : Nat} (hk : 1 + k2 ≤ k) (hz : N + z2 ≤ z)
    (kk : jv_J g X I (pc + 3) ls (jv_r g n :: st) (n + 1) (jv_NS sh n (c + 1, 0, fun _ => none)) (jv_NV V n (fun _ => 0)) L k2 z2) : jv_J g X I pc ls st n sh V L k z := by
  obtain ⟨p, l, e, R, s, m, args, below, meth, cd, Q⟩ := X
  intro hC lsA H locs cells slots hP hS hl0 hcc hss
  obtain ⟨c1, c2, c3, c4, c5, c6, c7, c8, c9, c10, c11, c12, c13⟩ := id hC
  obtain ⟨h1, h2, h3, h4, h5, h6, h7⟩ := hc
  have hKn := c10.1.1 c _ h1
  refine W.newcK c1 c2 c4 (c5 _ hl) (c5 _ hins) (c5 _ hini) rfl d (by omega) (by omega) hKn.2.1 (h := g.1 + n) hP.1 fun H1 kC hkC e1 z1 o1 => ?_
  have z1' : H1.size = H.size + 1 := by rw [hP.1]; exact z1
  have o1' : ∀ q, q < H.size → H1[q]? = H[q]? := by rw [hP.1]; exact o1
  refine kk hC lsA H1 locs (cells + 1) (slots + N) (hP.new z1' o1' (fun e0 he0 => ?_) (fun q hq => ⟨if_neg hq, if_neg hq, rfl⟩)) (jv_S_new hS z1' o1') hl0 (by omega) (by omega)
  rw [jv_NS_self, jv_NV_self, jv_ent_o (c := c) rfl h6] at he0
  cases he0
  refine ⟨_, h1, (u_born ty c5 h2 hKn hkC e1 h3).to (fun j hj => ?_)⟩
  rw [hdf j hj]
  show _ = (jv_fs g.1 c (fun _ => none) (fun _ => 0)).getD j .null
  rw [List.getD_eq_getElem?_getD, jv_fs_at (by rw [← h5]; exact hj)]
  rfl
theorem jv_newI {N : Nat} (hw : Cond.arrayClass .int ∈ jv_gw) (d : decode (jb I) pc = .ok (.newarray .int, 2)) (hN : N < 100000) {k2 z2 : Nat} (hk : 1 + k2 ≤ k) (hz : N + z2 ≤ z)
    (kk : jv_J g X I (pc + 2) ls (jv_r g n :: st) (n + 1) (jv_NS sh n (10, N, fun _ => none)) (jv_NV V n (fun _ => 0)) L k2 z2) : jv_J g X I pc ls (.int (nI N) :: st) n sh V L k z := by
  obtain ⟨p, l, e, R, s, m, args, below, meth, cd, Q⟩ := X
  intro hC lsA H locs cells slots hP hS hl0 hcc hss
  obtain ⟨c1, c2, c3, c4, c5, c6, c7, c8, c9, c10, c11, c12, c13⟩ := id hC
  refine va_newaK (atype := .int) (N := N) c1 c2 (c5 _ hw) rfl d rfl (nI_pos (by omega)) (nI_clamp (by omega)) (by show N * 4 ≤ _; omega) (by omega) (by omega) (h := g.1 + n) hP.1 fun H1 cA e1 z1 o1 hAr hNm => ?_
  have ec : cA = g.2.2 0 := Option.some.inj (hNm.symm.trans (c10.1.2 0 _ rfl).2)
  subst ec
  have z1' : H1.size = H.size + 1 := by rw [hP.1]; exact z1
  have o1' : ∀ q, q < H.size → H1[q]? = H[q]? := by rw [hP.1]; exact o1
  refine kk hC lsA H1 locs (cells + 1) (slots + N) (hP.new z1' o1' (fun e0 he0 => ?_) (fun q hq => ⟨if_neg hq, if_neg hq, rfl⟩)) (jv_S_new hS z1' o1') hl0 (by omega) (by omega)
  rw [jv_NS_self, jv_NV_self, jv_ent_i rfl] at he0
  cases he0
  exact e1
theorem jv_newZ {N : Nat} (hw : Cond.arrayClass .boolean ∈ jv_gw) (d : decode (jb I) pc = .ok (.newarray .boolean, 2)) (hN : N < 100000) {k2 z2 : Nat} (hk : 1 + k2 ≤ k) (hz : N + z2 ≤ z)
    (kk : jv_J g X I (pc + 2) ls (jv_r g n :: st) (n + 1) (jv_NS sh n (11, N, fun _ => none)) (jv_NV V n (fun _ => 0)) L k2 z2) : jv_J g X I pc ls (.int (nI N) :: st) n sh V L k z := by
  obtain ⟨p, l, e, R, s, m, args, below, meth, cd, Q⟩ := X
  intro hC lsA H locs cells slots hP hS hl0 hcc hss
  obtain ⟨c1, c2, c3, c4, c5, c6, c7, c8, c9, c10, c11, c12, c13⟩ := id hC
  refine va_newaK (atype := .boolean) (N := N) c1 c2 (c5 _ hw) rfl d rfl (nI_pos (by omega)) (nI_clamp (by omega)) (by show N * 1 ≤ _; omega) (by omega) (by omega) (h := g.1 + n) hP.1 fun H1 cA e1 z1 o1 hAr hNm => ?_
  have ec : cA = g.2.2 1 := Option.some.inj (hNm.symm.trans (c10.1.2 1 _ rfl).2)
  subst ec
  have z1' : H1.size = H.size + 1 := by rw [hP.1]; exact z1
  have o1' : ∀ q, q < H.size → H1[q]? = H[q]? := by rw [hP.1]; exact o1
  refine kk hC lsA H1 locs (cells + 1) (slots + N) (hP.new z1' o1' (fun e0 he0 => ?_) (fun q hq => ⟨if_neg hq, if_neg hq, rfl⟩)) (jv_S_new hS z1' o1') hl0 (by omega) (by omega)
  rw [jv_NS_self, jv_NV_self, jv_ent_z rfl] at he0
  cases he0
  exact e1
theorem j_aret {q : Nat} {rt : FieldType} (hM : jv_M g X T) (d : decode (jb I) pc = .ok (.areturn, 1)) (hr : jr I = some rt) (hrt : (∃ n, rt = .object n) ∨ ∃ t, rt = .array t) (hT : T (.inl (some (jv_r g q))) n sh V L) : jv_J g X I pc ls [jv_r g q] n sh V L k z := by
  obtain ⟨p, l, e, R, s, m, args, below, meth, cd, Q⟩ := X
  intro hC lsA H locs cells slots hP hS hl0 hcc hss
  obtain ⟨c1, c2, c3, c4, c5, c6, c7, c8, c9, c10, c11, c12, c13⟩ := id hC
  have hQ : Q = vx_MQ below (jv_Q g T) (jv_XC g T) args s R.cells R.slots (fun q => g.1 ≤ q) := hM
  subst hQ
  refine vx_ret (W.widen (k := R.cells) (n := R.slots) (by omega) (by omega) ?_)
  exact W.aret (v := .ref (g.1 + q)) c1 c2 (by rw [c6]; exact hr) hrt (Or.inr ⟨_, rfl⟩) (fun t ht hW => ⟨_, n, sh, V, L, rfl, hT, by rw [ht]; exact hP, hS.F ht⟩) hS.2.2 d c7
theorem j_ifnn {off : Int} {tgt q : Nat} (d : decode (jb I) pc = .ok (.ifnonnull off, 3)) (ht : (pc : Int) + off = (tgt : Int)) (kk : jv_J g X I tgt ls st n sh V L k z) : jv_J g X I pc ls (jv_r g q :: st) n sh V L k z := by
  obtain ⟨p, l, e, R, s, m, args, below, meth, cd, Q⟩ := X
  intro hC lsA H locs cells slots hP hS hl0 hcc hss
  exact lv_ifnonnull hC.1 hC.2.1 d ht (kk hC lsA H locs cells slots hP hS hl0 hcc hss)
end JVE
