theorem jv_c1n {v : Value} (h : jv_c1 (some v) = true) : ¬ v.category = 2 := by
  unfold jv_c1 at h
  have h1 : v.category = 1 := by simpa using h
  omega
theorem jv_inc (x : Nat) : nI x + Int32.ofInt 1 = nI (x + 1) := nI_1 x
theorem j_iconst {g : jv_G} {X : jv_X} {I : jv_I} {pc n : Nat} {ls : List (Option Value)} {st : List Value} {sh : Nat → jv_S} {V : Nat → Nat → Int32} {L : Nat → Nat → Int64} {k z : Nat} {i : Int} {v : Int32} (d : decode (jb I) pc = .ok (.iconst i, 1)) (hv : Int32.ofInt i = v) (kk : jv_J g X I (pc + 1) ls (.int v :: st) n sh V L k z) : jv_J g X I (pc) ls (st) n sh V L k z := by
  obtain ⟨p, l, e, R, s, m, args, below, meth, c, Q⟩ := X
  intro hC lsA H locs cells slots hP hS hl hc hs
  exact lv_iconst hC.1 hC.2.1 d hv (kk hC lsA H locs cells slots hP hS hl hc hs)
theorem j_bipush {g : jv_G} {X : jv_X} {I : jv_I} {pc n : Nat} {ls : List (Option Value)} {st : List Value} {sh : Nat → jv_S} {V : Nat → Nat → Int32} {L : Nat → Nat → Int64} {k z : Nat} {i : Int} {v : Int32} (d : decode (jb I) pc = .ok (.bipush i, 2)) (hv : (Int8.ofInt i).toInt32 = v) (kk : jv_J g X I (pc + 2) ls (.int v :: st) n sh V L k z) : jv_J g X I (pc) ls (st) n sh V L k z := by
  obtain ⟨p, l, e, R, s, m, args, below, meth, c, Q⟩ := X
  intro hC lsA H locs cells slots hP hS hl hc hs
  exact lv_bipush hC.1 hC.2.1 d hv (kk hC lsA H locs cells slots hP hS hl hc hs)
theorem j_sipush {g : jv_G} {X : jv_X} {I : jv_I} {pc n : Nat} {ls : List (Option Value)} {st : List Value} {sh : Nat → jv_S} {V : Nat → Nat → Int32} {L : Nat → Nat → Int64} {k z : Nat} {i : Int} {v : Int32} (d : decode (jb I) pc = .ok (.sipush i, 3)) (hv : (Int16.ofInt i).toInt32 = v) (kk : jv_J g X I (pc + 3) ls (.int v :: st) n sh V L k z) : jv_J g X I (pc) ls (st) n sh V L k z := by
  obtain ⟨p, l, e, R, s, m, args, below, meth, c, Q⟩ := X
  intro hC lsA H locs cells slots hP hS hl hc hs
  exact lv_sipush hC.1 hC.2.1 d hv (kk hC lsA H locs cells slots hP hS hl hc hs)
theorem j_lconst {g : jv_G} {X : jv_X} {I : jv_I} {pc n : Nat} {ls : List (Option Value)} {st : List Value} {sh : Nat → jv_S} {V : Nat → Nat → Int32} {L : Nat → Nat → Int64} {k z : Nat} {i : Fin 2} {v : Int64} (d : decode (jb I) pc = .ok (.lconst i, 1)) (hv : Int64.ofNat (i : Nat) = v) (kk : jv_J g X I (pc + 1) ls (.long v :: st) n sh V L k z) : jv_J g X I (pc) ls (st) n sh V L k z := by
  obtain ⟨p, l, e, R, s, m, args, below, meth, c, Q⟩ := X
  intro hC lsA H locs cells slots hP hS hl hc hs
  exact lv_lconst hC.1 hC.2.1 d hv (kk hC lsA H locs cells slots hP hS hl hc hs)
theorem j_ldc2 {g : jv_G} {X : jv_X} {I : jv_I} {pc n : Nat} {ls : List (Option Value)} {st : List Value} {sh : Nat → jv_S} {V : Nat → Nat → Int32} {L : Nat → Nat → Int64} {k z : Nat} {idx : Nat} {v : Int64} (d : decode (jb I) pc = .ok (.ldc2_w idx, 3)) (hw : Cond.constantLong (jo I) idx v ∈ jv_gw) (kk : jv_J g X I (pc + 3) ls (.long v :: st) n sh V L k z) : jv_J g X I (pc) ls (st) n sh V L k z := by
  obtain ⟨p, l, e, R, s, m, args, below, meth, c, Q⟩ := X
  intro hC lsA H locs cells slots hP hS hl hc hs
  exact lv_ldc2 hC.1 hC.2.1 hC.2.2.2.1 (hC.2.2.2.2.1 _ hw) d (kk hC lsA H locs cells slots hP hS hl hc hs)
theorem j_ldc {g : jv_G} {X : jv_X} {I : jv_I} {pc n : Nat} {ls : List (Option Value)} {st : List Value} {sh : Nat → jv_S} {V : Nat → Nat → Int32} {L : Nat → Nat → Int64} {k z : Nat} {idx : Nat} {v : Int32} (d : decode (jb I) pc = .ok (.ldc idx, 2)) (hw : Cond.constant (jo I) idx v ∈ jv_gw) (kk : jv_J g X I (pc + 2) ls (.int v :: st) n sh V L k z) : jv_J g X I (pc) ls (st) n sh V L k z := by
  obtain ⟨p, l, e, R, s, m, args, below, meth, c, Q⟩ := X
  intro hC lsA H locs cells slots hP hS hl hc hs
  exact lv_ldc hC.1 hC.2.1 hC.2.2.2.1 (hC.2.2.2.2.1 _ hw) d (kk hC lsA H locs cells slots hP hS hl hc hs)
theorem j_dcmp {g : jv_G} {X : jv_X} {I : jv_I} {pc n : Nat} {ls : List (Option Value)} {st : List Value} {sh : Nat → jv_S} {V : Nat → Nat → Int32} {L : Nat → Nat → Int64} {k z : Nat} {x y : UInt64} {op : CmpOp} (d : decode (jb I) pc = .ok (.dcmp op, 1)) (kk : jv_J g X I (pc + 1) ls (.int (Op.cmpValue (FP.dcmp x y) op) :: st) n sh V L k z) : jv_J g X I (pc) ls (.double y :: .double x :: st) n sh V L k z := by
  obtain ⟨p, l, e, R, s, m, args, below, meth, c, Q⟩ := X
  intro hC lsA H locs cells slots hP hS hl hc hs
  exact lv_dcmp hC.1 hC.2.1 d (kk hC lsA H locs cells slots hP hS hl hc hs)
theorem j_dconst0 {g : jv_G} {X : jv_X} {I : jv_I} {pc n : Nat} {ls : List (Option Value)} {st : List Value} {sh : Nat → jv_S} {V : Nat → Nat → Int32} {L : Nat → Nat → Int64} {k z : Nat}  (d : decode (jb I) pc = .ok (.dconst 0, 1)) (kk : jv_J g X I (pc + 1) ls (.double FP.dconst0 :: st) n sh V L k z) : jv_J g X I (pc) ls (st) n sh V L k z := by
  obtain ⟨p, l, e, R, s, m, args, below, meth, c, Q⟩ := X
  intro hC lsA H locs cells slots hP hS hl hc hs
  exact lv_dconst0 hC.1 hC.2.1 d (kk hC lsA H locs cells slots hP hS hl hc hs)
theorem j_iload_n_0 {g : jv_G} {X : jv_X} {I : jv_I} {pc n : Nat} {st : List Value} {sh : Nat → jv_S} {V : Nat → Nat → Int32} {L : Nat → Nat → Int64} {k z : Nat} {rest : List (Option Value)} {x : Int32} (d : decode (jb I) pc = .ok (.iload_n 0, 1)) (kk : jv_J g X I (pc + 1) (some (.int x) :: rest) (.int x :: st) n sh V L k z) : jv_J g X I (pc) (some (.int x) :: rest) (st) n sh V L k z := by
  obtain ⟨p, l, e, R, s, m, args, below, meth, c, Q⟩ := X
  intro hC lsA H locs cells slots hP hS hl hc hs
  exact lv_iload_n hC.1 hC.2.1 d rfl (jv_ld (v := .int x) hl rfl) (kk hC lsA H locs cells slots hP hS hl hc hs)
theorem j_iload_0 {g : jv_G} {X : jv_X} {I : jv_I} {pc n : Nat} {st : List Value} {sh : Nat → jv_S} {V : Nat → Nat → Int32} {L : Nat → Nat → Int64} {k z : Nat} {rest : List (Option Value)} {x : Int32} (d : decode (jb I) pc = .ok (.iload 0, 2)) (kk : jv_J g X I (pc + 2) (some (.int x) :: rest) (.int x :: st) n sh V L k z) : jv_J g X I (pc) (some (.int x) :: rest) (st) n sh V L k z := by
  obtain ⟨p, l, e, R, s, m, args, below, meth, c, Q⟩ := X
  intro hC lsA H locs cells slots hP hS hl hc hs
  exact lv_iload hC.1 hC.2.1 d (jv_ld (v := .int x) hl rfl) (kk hC lsA H locs cells slots hP hS hl hc hs)
theorem j_aload_n_0 {g : jv_G} {X : jv_X} {I : jv_I} {pc n : Nat} {st : List Value} {sh : Nat → jv_S} {V : Nat → Nat → Int32} {L : Nat → Nat → Int64} {k z : Nat} {rest : List (Option Value)} {x : Nat} (d : decode (jb I) pc = .ok (.aload_n 0, 1)) (kk : jv_J g X I (pc + 1) (some (jv_r g x) :: rest) (jv_r g x :: st) n sh V L k z) : jv_J g X I (pc) (some (jv_r g x) :: rest) (st) n sh V L k z := by
  obtain ⟨p, l, e, R, s, m, args, below, meth, c, Q⟩ := X
  intro hC lsA H locs cells slots hP hS hl hc hs
  exact lv_aload_n hC.1 hC.2.1 d rfl (jv_ld (v := jv_r g x) hl rfl) (kk hC lsA H locs cells slots hP hS hl hc hs)
theorem j_aload_0 {g : jv_G} {X : jv_X} {I : jv_I} {pc n : Nat} {st : List Value} {sh : Nat → jv_S} {V : Nat → Nat → Int32} {L : Nat → Nat → Int64} {k z : Nat} {rest : List (Option Value)} {x : Nat} (d : decode (jb I) pc = .ok (.aload 0, 2)) (kk : jv_J g X I (pc + 2) (some (jv_r g x) :: rest) (jv_r g x :: st) n sh V L k z) : jv_J g X I (pc) (some (jv_r g x) :: rest) (st) n sh V L k z := by
  obtain ⟨p, l, e, R, s, m, args, below, meth, c, Q⟩ := X
  intro hC lsA H locs cells slots hP hS hl hc hs
  exact lv_aload hC.1 hC.2.1 d (jv_ld (v := jv_r g x) hl rfl) (kk hC lsA H locs cells slots hP hS hl hc hs)
theorem j_lload_n_0 {g : jv_G} {X : jv_X} {I : jv_I} {pc n : Nat} {st : List Value} {sh : Nat → jv_S} {V : Nat → Nat → Int32} {L : Nat → Nat → Int64} {k z : Nat} {rest : List (Option Value)} {x : Int64} (d : decode (jb I) pc = .ok (.lload_n 0, 1)) (kk : jv_J g X I (pc + 1) (some (.long x) :: rest) (.long x :: st) n sh V L k z) : jv_J g X I (pc) (some (.long x) :: rest) (st) n sh V L k z := by
  obtain ⟨p, l, e, R, s, m, args, below, meth, c, Q⟩ := X
  intro hC lsA H locs cells slots hP hS hl hc hs
  exact lv_lload_n hC.1 hC.2.1 d rfl (jv_ld (v := .long x) hl rfl) (kk hC lsA H locs cells slots hP hS hl hc hs)
theorem j_lload_0 {g : jv_G} {X : jv_X} {I : jv_I} {pc n : Nat} {st : List Value} {sh : Nat → jv_S} {V : Nat → Nat → Int32} {L : Nat → Nat → Int64} {k z : Nat} {rest : List (Option Value)} {x : Int64} (d : decode (jb I) pc = .ok (.lload 0, 2)) (kk : jv_J g X I (pc + 2) (some (.long x) :: rest) (.long x :: st) n sh V L k z) : jv_J g X I (pc) (some (.long x) :: rest) (st) n sh V L k z := by
  obtain ⟨p, l, e, R, s, m, args, below, meth, c, Q⟩ := X
  intro hC lsA H locs cells slots hP hS hl hc hs
  exact lv_lload hC.1 hC.2.1 d (jv_ld (v := .long x) hl rfl) (kk hC lsA H locs cells slots hP hS hl hc hs)
theorem j_dload_n_0 {g : jv_G} {X : jv_X} {I : jv_I} {pc n : Nat} {st : List Value} {sh : Nat → jv_S} {V : Nat → Nat → Int32} {L : Nat → Nat → Int64} {k z : Nat} {rest : List (Option Value)} {x : UInt64} (d : decode (jb I) pc = .ok (.dload_n 0, 1)) (kk : jv_J g X I (pc + 1) (some (.double x) :: rest) (.double x :: st) n sh V L k z) : jv_J g X I (pc) (some (.double x) :: rest) (st) n sh V L k z := by
  obtain ⟨p, l, e, R, s, m, args, below, meth, c, Q⟩ := X
  intro hC lsA H locs cells slots hP hS hl hc hs
  exact lv_dload_n hC.1 hC.2.1 d rfl (jv_ld (v := .double x) hl rfl) (kk hC lsA H locs cells slots hP hS hl hc hs)
theorem j_dload_0 {g : jv_G} {X : jv_X} {I : jv_I} {pc n : Nat} {st : List Value} {sh : Nat → jv_S} {V : Nat → Nat → Int32} {L : Nat → Nat → Int64} {k z : Nat} {rest : List (Option Value)} {x : UInt64} (d : decode (jb I) pc = .ok (.dload 0, 2)) (kk : jv_J g X I (pc + 2) (some (.double x) :: rest) (.double x :: st) n sh V L k z) : jv_J g X I (pc) (some (.double x) :: rest) (st) n sh V L k z := by
  obtain ⟨p, l, e, R, s, m, args, below, meth, c, Q⟩ := X
  intro hC lsA H locs cells slots hP hS hl hc hs
  exact lv_dload hC.1 hC.2.1 d (jv_ld (v := .double x) hl rfl) (kk hC lsA H locs cells slots hP hS hl hc hs)
theorem j_istore_n_0 {g : jv_G} {X : jv_X} {I : jv_I} {pc n : Nat} {st : List Value} {sh : Nat → jv_S} {V : Nat → Nat → Int32} {L : Nat → Nat → Int64} {k z : Nat} {rest : List (Option Value)} {w : Option Value} {x : Int32} (hn : 0 < jn I) (d : decode (jb I) pc = .ok (.istore_n 0, 1)) (kk : jv_J g X I (pc + 1) (some (.int x) :: rest) (st) n sh V L k z) : jv_J g X I (pc) (w :: rest) (.int x :: st) n sh V L k z := by
  obtain ⟨p, l, e, R, s, m, args, below, meth, c, Q⟩ := X
  intro hC lsA H locs cells slots hP hS hl hc hs
  refine lv_istore_n hC.1 hC.2.1 d rfl hl hn rfl (fun ls1 hl1 => ?_)
  exact kk hC ls1 H locs cells slots hP hS (jv_st1 (ls := w :: rest) (v := .int x) (i := 0) (fun j v hj _ => absurd hj (by omega)) hl1) hc hs
theorem j_istore_0 {g : jv_G} {X : jv_X} {I : jv_I} {pc n : Nat} {st : List Value} {sh : Nat → jv_S} {V : Nat → Nat → Int32} {L : Nat → Nat → Int64} {k z : Nat} {rest : List (Option Value)} {w : Option Value} {x : Int32} (hn : 0 < jn I) (d : decode (jb I) pc = .ok (.istore 0, 2)) (kk : jv_J g X I (pc + 2) (some (.int x) :: rest) (st) n sh V L k z) : jv_J g X I (pc) (w :: rest) (.int x :: st) n sh V L k z := by
  obtain ⟨p, l, e, R, s, m, args, below, meth, c, Q⟩ := X
  intro hC lsA H locs cells slots hP hS hl hc hs
  refine lv_istore hC.1 hC.2.1 d hl hn rfl (fun ls1 hl1 => ?_)
  exact kk hC ls1 H locs cells slots hP hS (jv_st1 (ls := w :: rest) (v := .int x) (i := 0) (fun j v hj _ => absurd hj (by omega)) hl1) hc hs
theorem j_astore_n_0 {g : jv_G} {X : jv_X} {I : jv_I} {pc n : Nat} {st : List Value} {sh : Nat → jv_S} {V : Nat → Nat → Int32} {L : Nat → Nat → Int64} {k z : Nat} {rest : List (Option Value)} {w : Option Value} {x : Nat} (hn : 0 < jn I) (d : decode (jb I) pc = .ok (.astore_n 0, 1)) (kk : jv_J g X I (pc + 1) (some (jv_r g x) :: rest) (st) n sh V L k z) : jv_J g X I (pc) (w :: rest) (jv_r g x :: st) n sh V L k z := by
  obtain ⟨p, l, e, R, s, m, args, below, meth, c, Q⟩ := X
  intro hC lsA H locs cells slots hP hS hl hc hs
  refine lv_astore_n hC.1 hC.2.1 d rfl hl hn rfl (fun ls1 hl1 => ?_)
  exact kk hC ls1 H locs cells slots hP hS (jv_st1 (ls := w :: rest) (v := .ref (g.1 + x)) (i := 0) (fun j v hj _ => absurd hj (by omega)) hl1) hc hs
theorem j_astore_0 {g : jv_G} {X : jv_X} {I : jv_I} {pc n : Nat} {st : List Value} {sh : Nat → jv_S} {V : Nat → Nat → Int32} {L : Nat → Nat → Int64} {k z : Nat} {rest : List (Option Value)} {w : Option Value} {x : Nat} (hn : 0 < jn I) (d : decode (jb I) pc = .ok (.astore 0, 2)) (kk : jv_J g X I (pc + 2) (some (jv_r g x) :: rest) (st) n sh V L k z) : jv_J g X I (pc) (w :: rest) (jv_r g x :: st) n sh V L k z := by
  obtain ⟨p, l, e, R, s, m, args, below, meth, c, Q⟩ := X
  intro hC lsA H locs cells slots hP hS hl hc hs
  refine lv_astore hC.1 hC.2.1 d hl hn rfl (fun ls1 hl1 => ?_)
  exact kk hC ls1 H locs cells slots hP hS (jv_st1 (ls := w :: rest) (v := .ref (g.1 + x)) (i := 0) (fun j v hj _ => absurd hj (by omega)) hl1) hc hs
theorem j_lstore_n_0 {g : jv_G} {X : jv_X} {I : jv_I} {pc n : Nat} {st : List Value} {sh : Nat → jv_S} {V : Nat → Nat → Int32} {L : Nat → Nat → Int64} {k z : Nat} {rest : List (Option Value)} {w w2 : Option Value} {x : Int64} (hn : 1 < jn I) (d : decode (jb I) pc = .ok (.lstore_n 0, 1)) (kk : jv_J g X I (pc + 1) (some (.long x) :: none :: rest) (st) n sh V L k z) : jv_J g X I (pc) (w :: w2 :: rest) (.long x :: st) n sh V L k z := by
  obtain ⟨p, l, e, R, s, m, args, below, meth, c, Q⟩ := X
  intro hC lsA H locs cells slots hP hS hl hc hs
  refine lv_lstore_n hC.1 hC.2.1 d rfl hl hn rfl (fun ls1 hl1 => ?_)
  exact kk hC ls1 H locs cells slots hP hS (jv_st2 (ls := w :: w2 :: rest) (v := .long x) (i := 0) (fun j v hj _ => absurd hj (by omega)) hl1) hc hs
theorem j_lstore_0 {g : jv_G} {X : jv_X} {I : jv_I} {pc n : Nat} {st : List Value} {sh : Nat → jv_S} {V : Nat → Nat → Int32} {L : Nat → Nat → Int64} {k z : Nat} {rest : List (Option Value)} {w w2 : Option Value} {x : Int64} (hn : 1 < jn I) (d : decode (jb I) pc = .ok (.lstore 0, 2)) (kk : jv_J g X I (pc + 2) (some (.long x) :: none :: rest) (st) n sh V L k z) : jv_J g X I (pc) (w :: w2 :: rest) (.long x :: st) n sh V L k z := by
  obtain ⟨p, l, e, R, s, m, args, below, meth, c, Q⟩ := X
  intro hC lsA H locs cells slots hP hS hl hc hs
  refine lv_lstore hC.1 hC.2.1 d hl hn rfl (fun ls1 hl1 => ?_)
  exact kk hC ls1 H locs cells slots hP hS (jv_st2 (ls := w :: w2 :: rest) (v := .long x) (i := 0) (fun j v hj _ => absurd hj (by omega)) hl1) hc hs
theorem j_dstore_n_0 {g : jv_G} {X : jv_X} {I : jv_I} {pc n : Nat} {st : List Value} {sh : Nat → jv_S} {V : Nat → Nat → Int32} {L : Nat → Nat → Int64} {k z : Nat} {rest : List (Option Value)} {w w2 : Option Value} {x : UInt64} (hn : 1 < jn I) (d : decode (jb I) pc = .ok (.dstore_n 0, 1)) (kk : jv_J g X I (pc + 1) (some (.double x) :: none :: rest) (st) n sh V L k z) : jv_J g X I (pc) (w :: w2 :: rest) (.double x :: st) n sh V L k z := by
  obtain ⟨p, l, e, R, s, m, args, below, meth, c, Q⟩ := X
  intro hC lsA H locs cells slots hP hS hl hc hs
  refine lv_dstore_n hC.1 hC.2.1 d rfl hl hn rfl (fun ls1 hl1 => ?_)
  exact kk hC ls1 H locs cells slots hP hS (jv_st2 (ls := w :: w2 :: rest) (v := .double x) (i := 0) (fun j v hj _ => absurd hj (by omega)) hl1) hc hs
theorem j_dstore_0 {g : jv_G} {X : jv_X} {I : jv_I} {pc n : Nat} {st : List Value} {sh : Nat → jv_S} {V : Nat → Nat → Int32} {L : Nat → Nat → Int64} {k z : Nat} {rest : List (Option Value)} {w w2 : Option Value} {x : UInt64} (hn : 1 < jn I) (d : decode (jb I) pc = .ok (.dstore 0, 2)) (kk : jv_J g X I (pc + 2) (some (.double x) :: none :: rest) (st) n sh V L k z) : jv_J g X I (pc) (w :: w2 :: rest) (.double x :: st) n sh V L k z := by
  obtain ⟨p, l, e, R, s, m, args, below, meth, c, Q⟩ := X
  intro hC lsA H locs cells slots hP hS hl hc hs
  refine lv_dstore hC.1 hC.2.1 d hl hn rfl (fun ls1 hl1 => ?_)
  exact kk hC ls1 H locs cells slots hP hS (jv_st2 (ls := w :: w2 :: rest) (v := .double x) (i := 0) (fun j v hj _ => absurd hj (by omega)) hl1) hc hs
theorem j_iinc_0 {g : jv_G} {X : jv_X} {I : jv_I} {pc n : Nat} {st : List Value} {sh : Nat → jv_S} {V : Nat → Nat → Int32} {L : Nat → Nat → Int64} {k z : Nat} {rest : List (Option Value)} {x v : Int32} {q : Int} (hn : 0 < jn I) (d : decode (jb I) pc = .ok (.iinc 0 q, 3)) (hv : x + Int32.ofInt q = v) (kk : jv_J g X I (pc + 3) (some (.int v) :: rest) (st) n sh V L k z) : jv_J g X I (pc) (some (.int x) :: rest) (st) n sh V L k z := by
  obtain ⟨p, l, e, R, s, m, args, below, meth, c, Q⟩ := X
  intro hC lsA H locs cells slots hP hS hl hc hs
  obtain ⟨q9, hq9⟩ := List.getElem?_of_mem (jv_lst_mem.mpr (show (some (.int x) :: rest)[0]? = some (some (.int x)) from rfl))
  refine lv_iinc (v := v) hC.1 hC.2.1 d hl hq9 hv hn rfl (fun ls1 hl1 => ?_)
  exact kk hC ls1 H locs cells slots hP hS (jv_st1 (ls := some (.int x) :: rest) (v := .int v) (i := 0) (fun j v hj _ => absurd hj (by omega)) hl1) hc hs
theorem j_inc1_0 {g : jv_G} {X : jv_X} {I : jv_I} {pc n : Nat} {st : List Value} {sh : Nat → jv_S} {V : Nat → Nat → Int32} {L : Nat → Nat → Int64} {k z : Nat} {rest : List (Option Value)}  {x : Nat} (hn : 0 < jn I) (d : decode (jb I) pc = .ok (.iinc 0 1, 3)) (kk : jv_J g X I (pc + 3) (some (.int (nI (x + 1))) :: rest) (st) n sh V L k z) : jv_J g X I (pc) (some (.int (nI x)) :: rest) (st) n sh V L k z := j_iinc_0 hn d (jv_inc x) kk
theorem j_iload_n_1 {g : jv_G} {X : jv_X} {I : jv_I} {pc n : Nat} {st : List Value} {sh : Nat → jv_S} {V : Nat → Nat → Int32} {L : Nat → Nat → Int64} {k z : Nat} {v0 : Option Value} {rest : List (Option Value)} {x : Int32} (d : decode (jb I) pc = .ok (.iload_n 1, 1)) (kk : jv_J g X I (pc + 1) (v0 :: some (.int x) :: rest) (.int x :: st) n sh V L k z) : jv_J g X I (pc) (v0 :: some (.int x) :: rest) (st) n sh V L k z := by
  obtain ⟨p, l, e, R, s, m, args, below, meth, c, Q⟩ := X
  intro hC lsA H locs cells slots hP hS hl hc hs
  exact lv_iload_n hC.1 hC.2.1 d rfl (jv_ld (v := .int x) hl rfl) (kk hC lsA H locs cells slots hP hS hl hc hs)
theorem j_iload_1 {g : jv_G} {X : jv_X} {I : jv_I} {pc n : Nat} {st : List Value} {sh : Nat → jv_S} {V : Nat → Nat → Int32} {L : Nat → Nat → Int64} {k z : Nat} {v0 : Option Value} {rest : List (Option Value)} {x : Int32} (d : decode (jb I) pc = .ok (.iload 1, 2)) (kk : jv_J g X I (pc + 2) (v0 :: some (.int x) :: rest) (.int x :: st) n sh V L k z) : jv_J g X I (pc) (v0 :: some (.int x) :: rest) (st) n sh V L k z := by
  obtain ⟨p, l, e, R, s, m, args, below, meth, c, Q⟩ := X
  intro hC lsA H locs cells slots hP hS hl hc hs
  exact lv_iload hC.1 hC.2.1 d (jv_ld (v := .int x) hl rfl) (kk hC lsA H locs cells slots hP hS hl hc hs)
theorem j_aload_n_1 {g : jv_G} {X : jv_X} {I : jv_I} {pc n : Nat} {st : List Value} {sh : Nat → jv_S} {V : Nat → Nat → Int32} {L : Nat → Nat → Int64} {k z : Nat} {v0 : Option Value} {rest : List (Option Value)} {x : Nat} (d : decode (jb I) pc = .ok (.aload_n 1, 1)) (kk : jv_J g X I (pc + 1) (v0 :: some (jv_r g x) :: rest) (jv_r g x :: st) n sh V L k z) : jv_J g X I (pc) (v0 :: some (jv_r g x) :: rest) (st) n sh V L k z := by
  obtain ⟨p, l, e, R, s, m, args, below, meth, c, Q⟩ := X
  intro hC lsA H locs cells slots hP hS hl hc hs
  exact lv_aload_n hC.1 hC.2.1 d rfl (jv_ld (v := jv_r g x) hl rfl) (kk hC lsA H locs cells slots hP hS hl hc hs)
theorem j_aload_1 {g : jv_G} {X : jv_X} {I : jv_I} {pc n : Nat} {st : List Value} {sh : Nat → jv_S} {V : Nat → Nat → Int32} {L : Nat → Nat → Int64} {k z : Nat} {v0 : Option Value} {rest : List (Option Value)} {x : Nat} (d : decode (jb I) pc = .ok (.aload 1, 2)) (kk : jv_J g X I (pc + 2) (v0 :: some (jv_r g x) :: rest) (jv_r g x :: st) n sh V L k z) : jv_J g X I (pc) (v0 :: some (jv_r g x) :: rest) (st) n sh V L k z := by
  obtain ⟨p, l, e, R, s, m, args, below, meth, c, Q⟩ := X
  intro hC lsA H locs cells slots hP hS hl hc hs
  exact lv_aload hC.1 hC.2.1 d (jv_ld (v := jv_r g x) hl rfl) (kk hC lsA H locs cells slots hP hS hl hc hs)
theorem j_lload_n_1 {g : jv_G} {X : jv_X} {I : jv_I} {pc n : Nat} {st : List Value} {sh : Nat → jv_S} {V : Nat → Nat → Int32} {L : Nat → Nat → Int64} {k z : Nat} {v0 : Option Value} {rest : List (Option Value)} {x : Int64} (d : decode (jb I) pc = .ok (.lload_n 1, 1)) (kk : jv_J g X I (pc + 1) (v0 :: some (.long x) :: rest) (.long x :: st) n sh V L k z) : jv_J g X I (pc) (v0 :: some (.long x) :: rest) (st) n sh V L k z := by
  obtain ⟨p, l, e, R, s, m, args, below, meth, c, Q⟩ := X
  intro hC lsA H locs cells slots hP hS hl hc hs
  exact lv_lload_n hC.1 hC.2.1 d rfl (jv_ld (v := .long x) hl rfl) (kk hC lsA H locs cells slots hP hS hl hc hs)
theorem j_lload_1 {g : jv_G} {X : jv_X} {I : jv_I} {pc n : Nat} {st : List Value} {sh : Nat → jv_S} {V : Nat → Nat → Int32} {L : Nat → Nat → Int64} {k z : Nat} {v0 : Option Value} {rest : List (Option Value)} {x : Int64} (d : decode (jb I) pc = .ok (.lload 1, 2)) (kk : jv_J g X I (pc + 2) (v0 :: some (.long x) :: rest) (.long x :: st) n sh V L k z) : jv_J g X I (pc) (v0 :: some (.long x) :: rest) (st) n sh V L k z := by
  obtain ⟨p, l, e, R, s, m, args, below, meth, c, Q⟩ := X
  intro hC lsA H locs cells slots hP hS hl hc hs
  exact lv_lload hC.1 hC.2.1 d (jv_ld (v := .long x) hl rfl) (kk hC lsA H locs cells slots hP hS hl hc hs)
theorem j_dload_n_1 {g : jv_G} {X : jv_X} {I : jv_I} {pc n : Nat} {st : List Value} {sh : Nat → jv_S} {V : Nat → Nat → Int32} {L : Nat → Nat → Int64} {k z : Nat} {v0 : Option Value} {rest : List (Option Value)} {x : UInt64} (d : decode (jb I) pc = .ok (.dload_n 1, 1)) (kk : jv_J g X I (pc + 1) (v0 :: some (.double x) :: rest) (.double x :: st) n sh V L k z) : jv_J g X I (pc) (v0 :: some (.double x) :: rest) (st) n sh V L k z := by
  obtain ⟨p, l, e, R, s, m, args, below, meth, c, Q⟩ := X
  intro hC lsA H locs cells slots hP hS hl hc hs
  exact lv_dload_n hC.1 hC.2.1 d rfl (jv_ld (v := .double x) hl rfl) (kk hC lsA H locs cells slots hP hS hl hc hs)
theorem j_dload_1 {g : jv_G} {X : jv_X} {I : jv_I} {pc n : Nat} {st : List Value} {sh : Nat → jv_S} {V : Nat → Nat → Int32} {L : Nat → Nat → Int64} {k z : Nat} {v0 : Option Value} {rest : List (Option Value)} {x : UInt64} (d : decode (jb I) pc = .ok (.dload 1, 2)) (kk : jv_J g X I (pc + 2) (v0 :: some (.double x) :: rest) (.double x :: st) n sh V L k z) : jv_J g X I (pc) (v0 :: some (.double x) :: rest) (st) n sh V L k z := by
  obtain ⟨p, l, e, R, s, m, args, below, meth, c, Q⟩ := X
  intro hC lsA H locs cells slots hP hS hl hc hs
  exact lv_dload hC.1 hC.2.1 d (jv_ld (v := .double x) hl rfl) (kk hC lsA H locs cells slots hP hS hl hc hs)
theorem j_istore_n_1 {g : jv_G} {X : jv_X} {I : jv_I} {pc n : Nat} {st : List Value} {sh : Nat → jv_S} {V : Nat → Nat → Int32} {L : Nat → Nat → Int64} {k z : Nat} {v0 : Option Value} {rest : List (Option Value)} {w : Option Value} {x : Int32} (ok : jv_c1 v0 = true) (hn : 1 < jn I) (d : decode (jb I) pc = .ok (.istore_n 1, 1)) (kk : jv_J g X I (pc + 1) (v0 :: some (.int x) :: rest) (st) n sh V L k z) : jv_J g X I (pc) (v0 :: w :: rest) (.int x :: st) n sh V L k z := by
  obtain ⟨p, l, e, R, s, m, args, below, meth, c, Q⟩ := X
  intro hC lsA H locs cells slots hP hS hl hc hs
  refine lv_istore_n hC.1 hC.2.1 d rfl hl hn rfl (fun ls1 hl1 => ?_)
  exact kk hC ls1 H locs cells slots hP hS (jv_st1 (ls := v0 :: w :: rest) (v := .int x) (i := 1) (fun j v hj hv => by
      have hj : j = 0 := by omega
      subst hj
      cases hv
      simpa [jv_c1] using jv_c1n ok) hl1) hc hs
theorem j_istore_1 {g : jv_G} {X : jv_X} {I : jv_I} {pc n : Nat} {st : List Value} {sh : Nat → jv_S} {V : Nat → Nat → Int32} {L : Nat → Nat → Int64} {k z : Nat} {v0 : Option Value} {rest : List (Option Value)} {w : Option Value} {x : Int32} (ok : jv_c1 v0 = true) (hn : 1 < jn I) (d : decode (jb I) pc = .ok (.istore 1, 2)) (kk : jv_J g X I (pc + 2) (v0 :: some (.int x) :: rest) (st) n sh V L k z) : jv_J g X I (pc) (v0 :: w :: rest) (.int x :: st) n sh V L k z := by
  obtain ⟨p, l, e, R, s, m, args, below, meth, c, Q⟩ := X
  intro hC lsA H locs cells slots hP hS hl hc hs
  refine lv_istore hC.1 hC.2.1 d hl hn rfl (fun ls1 hl1 => ?_)
  exact kk hC ls1 H locs cells slots hP hS (jv_st1 (ls := v0 :: w :: rest) (v := .int x) (i := 1) (fun j v hj hv => by
      have hj : j = 0 := by omega
      subst hj
      cases hv
      simpa [jv_c1] using jv_c1n ok) hl1) hc hs
theorem j_astore_n_1 {g : jv_G} {X : jv_X} {I : jv_I} {pc n : Nat} {st : List Value} {sh : Nat → jv_S} {V : Nat → Nat → Int32} {L : Nat → Nat → Int64} {k z : Nat} {v0 : Option Value} {rest : List (Option Value)} {w : Option Value} {x : Nat} (ok : jv_c1 v0 = true) (hn : 1 < jn I) (d : decode (jb I) pc = .ok (.astore_n 1, 1)) (kk : jv_J g X I (pc + 1) (v0 :: some (jv_r g x) :: rest) (st) n sh V L k z) : jv_J g X I (pc) (v0 :: w :: rest) (jv_r g x :: st) n sh V L k z := by
  obtain ⟨p, l, e, R, s, m, args, below, meth, c, Q⟩ := X
  intro hC lsA H locs cells slots hP hS hl hc hs
  refine lv_astore_n hC.1 hC.2.1 d rfl hl hn rfl (fun ls1 hl1 => ?_)
  exact kk hC ls1 H locs cells slots hP hS (jv_st1 (ls := v0 :: w :: rest) (v := .ref (g.1 + x)) (i := 1) (fun j v hj hv => by
      have hj : j = 0 := by omega
      subst hj
      cases hv
      simpa [jv_c1] using jv_c1n ok) hl1) hc hs
theorem j_astore_1 {g : jv_G} {X : jv_X} {I : jv_I} {pc n : Nat} {st : List Value} {sh : Nat → jv_S} {V : Nat → Nat → Int32} {L : Nat → Nat → Int64} {k z : Nat} {v0 : Option Value} {rest : List (Option Value)} {w : Option Value} {x : Nat} (ok : jv_c1 v0 = true) (hn : 1 < jn I) (d : decode (jb I) pc = .ok (.astore 1, 2)) (kk : jv_J g X I (pc + 2) (v0 :: some (jv_r g x) :: rest) (st) n sh V L k z) : jv_J g X I (pc) (v0 :: w :: rest) (jv_r g x :: st) n sh V L k z := by
  obtain ⟨p, l, e, R, s, m, args, below, meth, c, Q⟩ := X
  intro hC lsA H locs cells slots hP hS hl hc hs
  refine lv_astore hC.1 hC.2.1 d hl hn rfl (fun ls1 hl1 => ?_)
  exact kk hC ls1 H locs cells slots hP hS (jv_st1 (ls := v0 :: w :: rest) (v := .ref (g.1 + x)) (i := 1) (fun j v hj hv => by
      have hj : j = 0 := by omega
      subst hj
      cases hv
      simpa [jv_c1] using jv_c1n ok) hl1) hc hs
theorem j_lstore_n_1 {g : jv_G} {X : jv_X} {I : jv_I} {pc n : Nat} {st : List Value} {sh : Nat → jv_S} {V : Nat → Nat → Int32} {L : Nat → Nat → Int64} {k z : Nat} {v0 : Option Value} {rest : List (Option Value)} {w w2 : Option Value} {x : Int64} (ok : jv_c1 v0 = true) (hn : 2 < jn I) (d : decode (jb I) pc = .ok (.lstore_n 1, 1)) (kk : jv_J g X I (pc + 1) (v0 :: some (.long x) :: none :: rest) (st) n sh V L k z) : jv_J g X I (pc) (v0 :: w :: w2 :: rest) (.long x :: st) n sh V L k z := by
  obtain ⟨p, l, e, R, s, m, args, below, meth, c, Q⟩ := X
  intro hC lsA H locs cells slots hP hS hl hc hs
  refine lv_lstore_n hC.1 hC.2.1 d rfl hl hn rfl (fun ls1 hl1 => ?_)
  exact kk hC ls1 H locs cells slots hP hS (jv_st2 (ls := v0 :: w :: w2 :: rest) (v := .long x) (i := 1) (fun j v hj hv => by
      have hj : j = 0 := by omega
      subst hj
      cases hv
      simpa [jv_c1] using jv_c1n ok) hl1) hc hs
theorem j_lstore_1 {g : jv_G} {X : jv_X} {I : jv_I} {pc n : Nat} {st : List Value} {sh : Nat → jv_S} {V : Nat → Nat → Int32} {L : Nat → Nat → Int64} {k z : Nat} {v0 : Option Value} {rest : List (Option Value)} {w w2 : Option Value} {x : Int64} (ok : jv_c1 v0 = true) (hn : 2 < jn I) (d : decode (jb I) pc = .ok (.lstore 1, 2)) (kk : jv_J g X I (pc + 2) (v0 :: some (.long x) :: none :: rest) (st) n sh V L k z) : jv_J g X I (pc) (v0 :: w :: w2 :: rest) (.long x :: st) n sh V L k z := by
  obtain ⟨p, l, e, R, s, m, args, below, meth, c, Q⟩ := X
  intro hC lsA H locs cells slots hP hS hl hc hs
  refine lv_lstore hC.1 hC.2.1 d hl hn rfl (fun ls1 hl1 => ?_)
  exact kk hC ls1 H locs cells slots hP hS (jv_st2 (ls := v0 :: w :: w2 :: rest) (v := .long x) (i := 1) (fun j v hj hv => by
      have hj : j = 0 := by omega
      subst hj
      cases hv
      simpa [jv_c1] using jv_c1n ok) hl1) hc hs
theorem j_dstore_n_1 {g : jv_G} {X : jv_X} {I : jv_I} {pc n : Nat} {st : List Value} {sh : Nat → jv_S} {V : Nat → Nat → Int32} {L : Nat → Nat → Int64} {k z : Nat} {v0 : Option Value} {rest : List (Option Value)} {w w2 : Option Value} {x : UInt64} (ok : jv_c1 v0 = true) (hn : 2 < jn I) (d : decode (jb I) pc = .ok (.dstore_n 1, 1)) (kk : jv_J g X I (pc + 1) (v0 :: some (.double x) :: none :: rest) (st) n sh V L k z) : jv_J g X I (pc) (v0 :: w :: w2 :: rest) (.double x :: st) n sh V L k z := by
  obtain ⟨p, l, e, R, s, m, args, below, meth, c, Q⟩ := X
  intro hC lsA H locs cells slots hP hS hl hc hs
  refine lv_dstore_n hC.1 hC.2.1 d rfl hl hn rfl (fun ls1 hl1 => ?_)
  exact kk hC ls1 H locs cells slots hP hS (jv_st2 (ls := v0 :: w :: w2 :: rest) (v := .double x) (i := 1) (fun j v hj hv => by
      have hj : j = 0 := by omega
      subst hj
      cases hv
      simpa [jv_c1] using jv_c1n ok) hl1) hc hs
theorem j_dstore_1 {g : jv_G} {X : jv_X} {I : jv_I} {pc n : Nat} {st : List Value} {sh : Nat → jv_S} {V : Nat → Nat → Int32} {L : Nat → Nat → Int64} {k z : Nat} {v0 : Option Value} {rest : List (Option Value)} {w w2 : Option Value} {x : UInt64} (ok : jv_c1 v0 = true) (hn : 2 < jn I) (d : decode (jb I) pc = .ok (.dstore 1, 2)) (kk : jv_J g X I (pc + 2) (v0 :: some (.double x) :: none :: rest) (st) n sh V L k z) : jv_J g X I (pc) (v0 :: w :: w2 :: rest) (.double x :: st) n sh V L k z := by
  obtain ⟨p, l, e, R, s, m, args, below, meth, c, Q⟩ := X
  intro hC lsA H locs cells slots hP hS hl hc hs
  refine lv_dstore hC.1 hC.2.1 d hl hn rfl (fun ls1 hl1 => ?_)
  exact kk hC ls1 H locs cells slots hP hS (jv_st2 (ls := v0 :: w :: w2 :: rest) (v := .double x) (i := 1) (fun j v hj hv => by
      have hj : j = 0 := by omega
      subst hj
      cases hv
      simpa [jv_c1] using jv_c1n ok) hl1) hc hs
theorem j_iinc_1 {g : jv_G} {X : jv_X} {I : jv_I} {pc n : Nat} {st : List Value} {sh : Nat → jv_S} {V : Nat → Nat → Int32} {L : Nat → Nat → Int64} {k z : Nat} {v0 : Option Value} {rest : List (Option Value)} {x v : Int32} {q : Int} (ok : jv_c1 v0 = true) (hn : 1 < jn I) (d : decode (jb I) pc = .ok (.iinc 1 q, 3)) (hv : x + Int32.ofInt q = v) (kk : jv_J g X I (pc + 3) (v0 :: some (.int v) :: rest) (st) n sh V L k z) : jv_J g X I (pc) (v0 :: some (.int x) :: rest) (st) n sh V L k z := by
  obtain ⟨p, l, e, R, s, m, args, below, meth, c, Q⟩ := X
  intro hC lsA H locs cells slots hP hS hl hc hs
  obtain ⟨q9, hq9⟩ := List.getElem?_of_mem (jv_lst_mem.mpr (show (v0 :: some (.int x) :: rest)[1]? = some (some (.int x)) from rfl))
  refine lv_iinc (v := v) hC.1 hC.2.1 d hl hq9 hv hn rfl (fun ls1 hl1 => ?_)
  exact kk hC ls1 H locs cells slots hP hS (jv_st1 (ls := v0 :: some (.int x) :: rest) (v := .int v) (i := 1) (fun j v hj hv => by
      have hj : j = 0 := by omega
      subst hj
      cases hv
      simpa [jv_c1] using jv_c1n ok) hl1) hc hs
theorem j_inc1_1 {g : jv_G} {X : jv_X} {I : jv_I} {pc n : Nat} {st : List Value} {sh : Nat → jv_S} {V : Nat → Nat → Int32} {L : Nat → Nat → Int64} {k z : Nat} {v0 : Option Value} {rest : List (Option Value)}  {x : Nat} (ok : jv_c1 v0 = true) (hn : 1 < jn I) (d : decode (jb I) pc = .ok (.iinc 1 1, 3)) (kk : jv_J g X I (pc + 3) (v0 :: some (.int (nI (x + 1))) :: rest) (st) n sh V L k z) : jv_J g X I (pc) (v0 :: some (.int (nI x)) :: rest) (st) n sh V L k z := j_iinc_1 ok hn d (jv_inc x) kk
theorem j_iload_n_2 {g : jv_G} {X : jv_X} {I : jv_I} {pc n : Nat} {st : List Value} {sh : Nat → jv_S} {V : Nat → Nat → Int32} {L : Nat → Nat → Int64} {k z : Nat} {v0 v1 : Option Value} {rest : List (Option Value)} {x : Int32} (d : decode (jb I) pc = .ok (.iload_n 2, 1)) (kk : jv_J g X I (pc + 1) (v0 :: v1 :: some (.int x) :: rest) (.int x :: st) n sh V L k z) : jv_J g X I (pc) (v0 :: v1 :: some (.int x) :: rest) (st) n sh V L k z := by
  obtain ⟨p, l, e, R, s, m, args, below, meth, c, Q⟩ := X
  intro hC lsA H locs cells slots hP hS hl hc hs
  exact lv_iload_n hC.1 hC.2.1 d rfl (jv_ld (v := .int x) hl rfl) (kk hC lsA H locs cells slots hP hS hl hc hs)
theorem j_iload_2 {g : jv_G} {X : jv_X} {I : jv_I} {pc n : Nat} {st : List Value} {sh : Nat → jv_S} {V : Nat → Nat → Int32} {L : Nat → Nat → Int64} {k z : Nat} {v0 v1 : Option Value} {rest : List (Option Value)} {x : Int32} (d : decode (jb I) pc = .ok (.iload 2, 2)) (kk : jv_J g X I (pc + 2) (v0 :: v1 :: some (.int x) :: rest) (.int x :: st) n sh V L k z) : jv_J g X I (pc) (v0 :: v1 :: some (.int x) :: rest) (st) n sh V L k z := by
  obtain ⟨p, l, e, R, s, m, args, below, meth, c, Q⟩ := X
  intro hC lsA H locs cells slots hP hS hl hc hs
  exact lv_iload hC.1 hC.2.1 d (jv_ld (v := .int x) hl rfl) (kk hC lsA H locs cells slots hP hS hl hc hs)
theorem j_aload_n_2 {g : jv_G} {X : jv_X} {I : jv_I} {pc n : Nat} {st : List Value} {sh : Nat → jv_S} {V : Nat → Nat → Int32} {L : Nat → Nat → Int64} {k z : Nat} {v0 v1 : Option Value} {rest : List (Option Value)} {x : Nat} (d : decode (jb I) pc = .ok (.aload_n 2, 1)) (kk : jv_J g X I (pc + 1) (v0 :: v1 :: some (jv_r g x) :: rest) (jv_r g x :: st) n sh V L k z) : jv_J g X I (pc) (v0 :: v1 :: some (jv_r g x) :: rest) (st) n sh V L k z := by
  obtain ⟨p, l, e, R, s, m, args, below, meth, c, Q⟩ := X
  intro hC lsA H locs cells slots hP hS hl hc hs
  exact lv_aload_n hC.1 hC.2.1 d rfl (jv_ld (v := jv_r g x) hl rfl) (kk hC lsA H locs cells slots hP hS hl hc hs)
theorem j_aload_2 {g : jv_G} {X : jv_X} {I : jv_I} {pc n : Nat} {st : List Value} {sh : Nat → jv_S} {V : Nat → Nat → Int32} {L : Nat → Nat → Int64} {k z : Nat} {v0 v1 : Option Value} {rest : List (Option Value)} {x : Nat} (d : decode (jb I) pc = .ok (.aload 2, 2)) (kk : jv_J g X I (pc + 2) (v0 :: v1 :: some (jv_r g x) :: rest) (jv_r g x :: st) n sh V L k z) : jv_J g X I (pc) (v0 :: v1 :: some (jv_r g x) :: rest) (st) n sh V L k z := by
  obtain ⟨p, l, e, R, s, m, args, below, meth, c, Q⟩ := X
  intro hC lsA H locs cells slots hP hS hl hc hs
  exact lv_aload hC.1 hC.2.1 d (jv_ld (v := jv_r g x) hl rfl) (kk hC lsA H locs cells slots hP hS hl hc hs)
theorem j_lload_n_2 {g : jv_G} {X : jv_X} {I : jv_I} {pc n : Nat} {st : List Value} {sh : Nat → jv_S} {V : Nat → Nat → Int32} {L : Nat → Nat → Int64} {k z : Nat} {v0 v1 : Option Value} {rest : List (Option Value)} {x : Int64} (d : decode (jb I) pc = .ok (.lload_n 2, 1)) (kk : jv_J g X I (pc + 1) (v0 :: v1 :: some (.long x) :: rest) (.long x :: st) n sh V L k z) : jv_J g X I (pc) (v0 :: v1 :: some (.long x) :: rest) (st) n sh V L k z := by
  obtain ⟨p, l, e, R, s, m, args, below, meth, c, Q⟩ := X
  intro hC lsA H locs cells slots hP hS hl hc hs
  exact lv_lload_n hC.1 hC.2.1 d rfl (jv_ld (v := .long x) hl rfl) (kk hC lsA H locs cells slots hP hS hl hc hs)
theorem j_lload_2 {g : jv_G} {X : jv_X} {I : jv_I} {pc n : Nat} {st : List Value} {sh : Nat → jv_S} {V : Nat → Nat → Int32} {L : Nat → Nat → Int64} {k z : Nat} {v0 v1 : Option Value} {rest : List (Option Value)} {x : Int64} (d : decode (jb I) pc = .ok (.lload 2, 2)) (kk : jv_J g X I (pc + 2) (v0 :: v1 :: some (.long x) :: rest) (.long x :: st) n sh V L k z) : jv_J g X I (pc) (v0 :: v1 :: some (.long x) :: rest) (st) n sh V L k z := by
  obtain ⟨p, l, e, R, s, m, args, below, meth, c, Q⟩ := X
  intro hC lsA H locs cells slots hP hS hl hc hs
  exact lv_lload hC.1 hC.2.1 d (jv_ld (v := .long x) hl rfl) (kk hC lsA H locs cells slots hP hS hl hc hs)
theorem j_dload_n_2 {g : jv_G} {X : jv_X} {I : jv_I} {pc n : Nat} {st : List Value} {sh : Nat → jv_S} {V : Nat → Nat → Int32} {L : Nat → Nat → Int64} {k z : Nat} {v0 v1 : Option Value} {rest : List (Option Value)} {x : UInt64} (d : decode (jb I) pc = .ok (.dload_n 2, 1)) (kk : jv_J g X I (pc + 1) (v0 :: v1 :: some (.double x) :: rest) (.double x :: st) n sh V L k z) : jv_J g X I (pc) (v0 :: v1 :: some (.double x) :: rest) (st) n sh V L k z := by
  obtain ⟨p, l, e, R, s, m, args, below, meth, c, Q⟩ := X
  intro hC lsA H locs cells slots hP hS hl hc hs
  exact lv_dload_n hC.1 hC.2.1 d rfl (jv_ld (v := .double x) hl rfl) (kk hC lsA H locs cells slots hP hS hl hc hs)
theorem j_dload_2 {g : jv_G} {X : jv_X} {I : jv_I} {pc n : Nat} {st : List Value} {sh : Nat → jv_S} {V : Nat → Nat → Int32} {L : Nat → Nat → Int64} {k z : Nat} {v0 v1 : Option Value} {rest : List (Option Value)} {x : UInt64} (d : decode (jb I) pc = .ok (.dload 2, 2)) (kk : jv_J g X I (pc + 2) (v0 :: v1 :: some (.double x) :: rest) (.double x :: st) n sh V L k z) : jv_J g X I (pc) (v0 :: v1 :: some (.double x) :: rest) (st) n sh V L k z := by
  obtain ⟨p, l, e, R, s, m, args, below, meth, c, Q⟩ := X
  intro hC lsA H locs cells slots hP hS hl hc hs
  exact lv_dload hC.1 hC.2.1 d (jv_ld (v := .double x) hl rfl) (kk hC lsA H locs cells slots hP hS hl hc hs)
theorem j_istore_n_2 {g : jv_G} {X : jv_X} {I : jv_I} {pc n : Nat} {st : List Value} {sh : Nat → jv_S} {V : Nat → Nat → Int32} {L : Nat → Nat → Int64} {k z : Nat} {v0 v1 : Option Value} {rest : List (Option Value)} {w : Option Value} {x : Int32} (ok : jv_c1 v1 = true) (hn : 2 < jn I) (d : decode (jb I) pc = .ok (.istore_n 2, 1)) (kk : jv_J g X I (pc + 1) (v0 :: v1 :: some (.int x) :: rest) (st) n sh V L k z) : jv_J g X I (pc) (v0 :: v1 :: w :: rest) (.int x :: st) n sh V L k z := by
  obtain ⟨p, l, e, R, s, m, args, below, meth, c, Q⟩ := X
  intro hC lsA H locs cells slots hP hS hl hc hs
  refine lv_istore_n hC.1 hC.2.1 d rfl hl hn rfl (fun ls1 hl1 => ?_)
  exact kk hC ls1 H locs cells slots hP hS (jv_st1 (ls := v0 :: v1 :: w :: rest) (v := .int x) (i := 2) (fun j v hj hv => by
      have hj : j = 1 := by omega
      subst hj
      cases hv
      simpa [jv_c1] using jv_c1n ok) hl1) hc hs
theorem j_istore_2 {g : jv_G} {X : jv_X} {I : jv_I} {pc n : Nat} {st : List Value} {sh : Nat → jv_S} {V : Nat → Nat → Int32} {L : Nat → Nat → Int64} {k z : Nat} {v0 v1 : Option Value} {rest : List (Option Value)} {w : Option Value} {x : Int32} (ok : jv_c1 v1 = true) (hn : 2 < jn I) (d : decode (jb I) pc = .ok (.istore 2, 2)) (kk : jv_J g X I (pc + 2) (v0 :: v1 :: some (.int x) :: rest) (st) n sh V L k z) : jv_J g X I (pc) (v0 :: v1 :: w :: rest) (.int x :: st) n sh V L k z := by
  obtain ⟨p, l, e, R, s, m, args, below, meth, c, Q⟩ := X
  intro hC lsA H locs cells slots hP hS hl hc hs
  refine lv_istore hC.1 hC.2.1 d hl hn rfl (fun ls1 hl1 => ?_)
  exact kk hC ls1 H locs cells slots hP hS (jv_st1 (ls := v0 :: v1 :: w :: rest) (v := .int x) (i := 2) (fun j v hj hv => by
      have hj : j = 1 := by omega
      subst hj
      cases hv
      simpa [jv_c1] using jv_c1n ok) hl1) hc hs
theorem j_astore_n_2 {g : jv_G} {X : jv_X} {I : jv_I} {pc n : Nat} {st : List Value} {sh : Nat → jv_S} {V : Nat → Nat → Int32} {L : Nat → Nat → Int64} {k z : Nat} {v0 v1 : Option Value} {rest : List (Option Value)} {w : Option Value} {x : Nat} (ok : jv_c1 v1 = true) (hn : 2 < jn I) (d : decode (jb I) pc = .ok (.astore_n 2, 1)) (kk : jv_J g X I (pc + 1) (v0 :: v1 :: some (jv_r g x) :: rest) (st) n sh V L k z) : jv_J g X I (pc) (v0 :: v1 :: w :: rest) (jv_r g x :: st) n sh V L k z := by
  obtain ⟨p, l, e, R, s, m, args, below, meth, c, Q⟩ := X
  intro hC lsA H locs cells slots hP hS hl hc hs
  refine lv_astore_n hC.1 hC.2.1 d rfl hl hn rfl (fun ls1 hl1 => ?_)
  exact kk hC ls1 H locs cells slots hP hS (jv_st1 (ls := v0 :: v1 :: w :: rest) (v := .ref (g.1 + x)) (i := 2) (fun j v hj hv => by
      have hj : j = 1 := by omega
      subst hj
      cases hv
      simpa [jv_c1] using jv_c1n ok) hl1) hc hs
theorem j_astore_2 {g : jv_G} {X : jv_X} {I : jv_I} {pc n : Nat} {st : List Value} {sh : Nat → jv_S} {V : Nat → Nat → Int32} {L : Nat → Nat → Int64} {k z : Nat} {v0 v1 : Option Value} {rest : List (Option Value)} {w : Option Value} {x : Nat} (ok : jv_c1 v1 = true) (hn : 2 < jn I) (d : decode (jb I) pc = .ok (.astore 2, 2)) (kk : jv_J g X I (pc + 2) (v0 :: v1 :: some (jv_r g x) :: rest) (st) n sh V L k z) : jv_J g X I (pc) (v0 :: v1 :: w :: rest) (jv_r g x :: st) n sh V L k z := by
  obtain ⟨p, l, e, R, s, m, args, below, meth, c, Q⟩ := X
  intro hC lsA H locs cells slots hP hS hl hc hs
  refine lv_astore hC.1 hC.2.1 d hl hn rfl (fun ls1 hl1 => ?_)
  exact kk hC ls1 H locs cells slots hP hS (jv_st1 (ls := v0 :: v1 :: w :: rest) (v := .ref (g.1 + x)) (i := 2) (fun j v hj hv => by
      have hj : j = 1 := by omega
      subst hj
      cases hv
      simpa [jv_c1] using jv_c1n ok) hl1) hc hs
theorem j_lstore_n_2 {g : jv_G} {X : jv_X} {I : jv_I} {pc n : Nat} {st : List Value} {sh : Nat → jv_S} {V : Nat → Nat → Int32} {L : Nat → Nat → Int64} {k z : Nat} {v0 v1 : Option Value} {rest : List (Option Value)} {w w2 : Option Value} {x : Int64} (ok : jv_c1 v1 = true) (hn : 3 < jn I) (d : decode (jb I) pc = .ok (.lstore_n 2, 1)) (kk : jv_J g X I (pc + 1) (v0 :: v1 :: some (.long x) :: none :: rest) (st) n sh V L k z) : jv_J g X I (pc) (v0 :: v1 :: w :: w2 :: rest) (.long x :: st) n sh V L k z := by
  obtain ⟨p, l, e, R, s, m, args, below, meth, c, Q⟩ := X
  intro hC lsA H locs cells slots hP hS hl hc hs
  refine lv_lstore_n hC.1 hC.2.1 d rfl hl hn rfl (fun ls1 hl1 => ?_)
  exact kk hC ls1 H locs cells slots hP hS (jv_st2 (ls := v0 :: v1 :: w :: w2 :: rest) (v := .long x) (i := 2) (fun j v hj hv => by
      have hj : j = 1 := by omega
      subst hj
      cases hv
      simpa [jv_c1] using jv_c1n ok) hl1) hc hs
theorem j_lstore_2 {g : jv_G} {X : jv_X} {I : jv_I} {pc n : Nat} {st : List Value} {sh : Nat → jv_S} {V : Nat → Nat → Int32} {L : Nat → Nat → Int64} {k z : Nat} {v0 v1 : Option Value} {rest : List (Option Value)} {w w2 : Option Value} {x : Int64} (ok : jv_c1 v1 = true) (hn : 3 < jn I) (d : decode (jb I) pc = .ok (.lstore 2, 2)) (kk : jv_J g X I (pc + 2) (v0 :: v1 :: some (.long x) :: none :: rest) (st) n sh V L k z) : jv_J g X I (pc) (v0 :: v1 :: w :: w2 :: rest) (.long x :: st) n sh V L k z := by
  obtain ⟨p, l, e, R, s, m, args, below, meth, c, Q⟩ := X
  intro hC lsA H locs cells slots hP hS hl hc hs
  refine lv_lstore hC.1 hC.2.1 d hl hn rfl (fun ls1 hl1 => ?_)
  exact kk hC ls1 H locs cells slots hP hS (jv_st2 (ls := v0 :: v1 :: w :: w2 :: rest) (v := .long x) (i := 2) (fun j v hj hv => by
      have hj : j = 1 := by omega
      subst hj
      cases hv
      simpa [jv_c1] using jv_c1n ok) hl1) hc hs
theorem j_dstore_n_2 {g : jv_G} {X : jv_X} {I : jv_I} {pc n : Nat} {st : List Value} {sh : Nat → jv_S} {V : Nat → Nat → Int32} {L : Nat → Nat → Int64} {k z : Nat} {v0 v1 : Option Value} {rest : List (Option Value)} {w w2 : Option Value} {x : UInt64} (ok : jv_c1 v1 = true) (hn : 3 < jn I) (d : decode (jb I) pc = .ok (.dstore_n 2, 1)) (kk : jv_J g X I (pc + 1) (v0 :: v1 :: some (.double x) :: none :: rest) (st) n sh V L k z) : jv_J g X I (pc) (v0 :: v1 :: w :: w2 :: rest) (.double x :: st) n sh V L k z := by
  obtain ⟨p, l, e, R, s, m, args, below, meth, c, Q⟩ := X
  intro hC lsA H locs cells slots hP hS hl hc hs
  refine lv_dstore_n hC.1 hC.2.1 d rfl hl hn rfl (fun ls1 hl1 => ?_)
  exact kk hC ls1 H locs cells slots hP hS (jv_st2 (ls := v0 :: v1 :: w :: w2 :: rest) (v := .double x) (i := 2) (fun j v hj hv => by
      have hj : j = 1 := by omega
      subst hj
      cases hv
      simpa [jv_c1] using jv_c1n ok) hl1) hc hs
theorem j_dstore_2 {g : jv_G} {X : jv_X} {I : jv_I} {pc n : Nat} {st : List Value} {sh : Nat → jv_S} {V : Nat → Nat → Int32} {L : Nat → Nat → Int64} {k z : Nat} {v0 v1 : Option Value} {rest : List (Option Value)} {w w2 : Option Value} {x : UInt64} (ok : jv_c1 v1 = true) (hn : 3 < jn I) (d : decode (jb I) pc = .ok (.dstore 2, 2)) (kk : jv_J g X I (pc + 2) (v0 :: v1 :: some (.double x) :: none :: rest) (st) n sh V L k z) : jv_J g X I (pc) (v0 :: v1 :: w :: w2 :: rest) (.double x :: st) n sh V L k z := by
  obtain ⟨p, l, e, R, s, m, args, below, meth, c, Q⟩ := X
  intro hC lsA H locs cells slots hP hS hl hc hs
  refine lv_dstore hC.1 hC.2.1 d hl hn rfl (fun ls1 hl1 => ?_)
  exact kk hC ls1 H locs cells slots hP hS (jv_st2 (ls := v0 :: v1 :: w :: w2 :: rest) (v := .double x) (i := 2) (fun j v hj hv => by
      have hj : j = 1 := by omega
      subst hj
      cases hv
      simpa [jv_c1] using jv_c1n ok) hl1) hc hs
theorem j_iinc_2 {g : jv_G} {X : jv_X} {I : jv_I} {pc n : Nat} {st : List Value} {sh : Nat → jv_S} {V : Nat → Nat → Int32} {L : Nat → Nat → Int64} {k z : Nat} {v0 v1 : Option Value} {rest : List (Option Value)} {x v : Int32} {q : Int} (ok : jv_c1 v1 = true) (hn : 2 < jn I) (d : decode (jb I) pc = .ok (.iinc 2 q, 3)) (hv : x + Int32.ofInt q = v) (kk : jv_J g X I (pc + 3) (v0 :: v1 :: some (.int v) :: rest) (st) n sh V L k z) : jv_J g X I (pc) (v0 :: v1 :: some (.int x) :: rest) (st) n sh V L k z := by
  obtain ⟨p, l, e, R, s, m, args, below, meth, c, Q⟩ := X
  intro hC lsA H locs cells slots hP hS hl hc hs
  obtain ⟨q9, hq9⟩ := List.getElem?_of_mem (jv_lst_mem.mpr (show (v0 :: v1 :: some (.int x) :: rest)[2]? = some (some (.int x)) from rfl))
  refine lv_iinc (v := v) hC.1 hC.2.1 d hl hq9 hv hn rfl (fun ls1 hl1 => ?_)
  exact kk hC ls1 H locs cells slots hP hS (jv_st1 (ls := v0 :: v1 :: some (.int x) :: rest) (v := .int v) (i := 2) (fun j v hj hv => by
      have hj : j = 1 := by omega
      subst hj
      cases hv
      simpa [jv_c1] using jv_c1n ok) hl1) hc hs
theorem j_inc1_2 {g : jv_G} {X : jv_X} {I : jv_I} {pc n : Nat} {st : List Value} {sh : Nat → jv_S} {V : Nat → Nat → Int32} {L : Nat → Nat → Int64} {k z : Nat} {v0 v1 : Option Value} {rest : List (Option Value)}  {x : Nat} (ok : jv_c1 v1 = true) (hn : 2 < jn I) (d : decode (jb I) pc = .ok (.iinc 2 1, 3)) (kk : jv_J g X I (pc + 3) (v0 :: v1 :: some (.int (nI (x + 1))) :: rest) (st) n sh V L k z) : jv_J g X I (pc) (v0 :: v1 :: some (.int (nI x)) :: rest) (st) n sh V L k z := j_iinc_2 ok hn d (jv_inc x) kk
theorem j_iload_n_3 {g : jv_G} {X : jv_X} {I : jv_I} {pc n : Nat} {st : List Value} {sh : Nat → jv_S} {V : Nat → Nat → Int32} {L : Nat → Nat → Int64} {k z : Nat} {v0 v1 v2 : Option Value} {rest : List (Option Value)} {x : Int32} (d : decode (jb I) pc = .ok (.iload_n 3, 1)) (kk : jv_J g X I (pc + 1) (v0 :: v1 :: v2 :: some (.int x) :: rest) (.int x :: st) n sh V L k z) : jv_J g X I (pc) (v0 :: v1 :: v2 :: some (.int x) :: rest) (st) n sh V L k z := by
  obtain ⟨p, l, e, R, s, m, args, below, meth, c, Q⟩ := X
  intro hC lsA H locs cells slots hP hS hl hc hs
  exact lv_iload_n hC.1 hC.2.1 d rfl (jv_ld (v := .int x) hl rfl) (kk hC lsA H locs cells slots hP hS hl hc hs)
theorem j_iload_3 {g : jv_G} {X : jv_X} {I : jv_I} {pc n : Nat} {st : List Value} {sh : Nat → jv_S} {V : Nat → Nat → Int32} {L : Nat → Nat → Int64} {k z : Nat} {v0 v1 v2 : Option Value} {rest : List (Option Value)} {x : Int32} (d : decode (jb I) pc = .ok (.iload 3, 2)) (kk : jv_J g X I (pc + 2) (v0 :: v1 :: v2 :: some (.int x) :: rest) (.int x :: st) n sh V L k z) : jv_J g X I (pc) (v0 :: v1 :: v2 :: some (.int x) :: rest) (st) n sh V L k z := by
  obtain ⟨p, l, e, R, s, m, args, below, meth, c, Q⟩ := X
  intro hC lsA H locs cells slots hP hS hl hc hs
  exact lv_iload hC.1 hC.2.1 d (jv_ld (v := .int x) hl rfl) (kk hC lsA H locs cells slots hP hS hl hc hs)
theorem j_aload_n_3 {g : jv_G} {X : jv_X} {I : jv_I} {pc n : Nat} {st : List Value} {sh : Nat → jv_S} {V : Nat → Nat → Int32} {L : Nat → Nat → Int64} {k z : Nat} {v0 v1 v2 : Option Value} {rest : List (Option Value)} {x : Nat} (d : decode (jb I) pc = .ok (.aload_n 3, 1)) (kk : jv_J g X I (pc + 1) (v0 :: v1 :: v2 :: some (jv_r g x) :: rest) (jv_r g x :: st) n sh V L k z) : jv_J g X I (pc) (v0 :: v1 :: v2 :: some (jv_r g x) :: rest) (st) n sh V L k z := by
  obtain ⟨p, l, e, R, s, m, args, below, meth, c, Q⟩ := X
  intro hC lsA H locs cells slots hP hS hl hc hs
  exact lv_aload_n hC.1 hC.2.1 d rfl (jv_ld (v := jv_r g x) hl rfl) (kk hC lsA H locs cells slots hP hS hl hc hs)
theorem j_aload_3 {g : jv_G} {X : jv_X} {I : jv_I} {pc n : Nat} {st : List Value} {sh : Nat → jv_S} {V : Nat → Nat → Int32} {L : Nat → Nat → Int64} {k z : Nat} {v0 v1 v2 : Option Value} {rest : List (Option Value)} {x : Nat} (d : decode (jb I) pc = .ok (.aload 3, 2)) (kk : jv_J g X I (pc + 2) (v0 :: v1 :: v2 :: some (jv_r g x) :: rest) (jv_r g x :: st) n sh V L k z) : jv_J g X I (pc) (v0 :: v1 :: v2 :: some (jv_r g x) :: rest) (st) n sh V L k z := by
  obtain ⟨p, l, e, R, s, m, args, below, meth, c, Q⟩ := X
  intro hC lsA H locs cells slots hP hS hl hc hs
  exact lv_aload hC.1 hC.2.1 d (jv_ld (v := jv_r g x) hl rfl) (kk hC lsA H locs cells slots hP hS hl hc hs)
theorem j_lload_n_3 {g : jv_G} {X : jv_X} {I : jv_I} {pc n : Nat} {st : List Value} {sh : Nat → jv_S} {V : Nat → Nat → Int32} {L : Nat → Nat → Int64} {k z : Nat} {v0 v1 v2 : Option Value} {rest : List (Option Value)} {x : Int64} (d : decode (jb I) pc = .ok (.lload_n 3, 1)) (kk : jv_J g X I (pc + 1) (v0 :: v1 :: v2 :: some (.long x) :: rest) (.long x :: st) n sh V L k z) : jv_J g X I (pc) (v0 :: v1 :: v2 :: some (.long x) :: rest) (st) n sh V L k z := by
  obtain ⟨p, l, e, R, s, m, args, below, meth, c, Q⟩ := X
  intro hC lsA H locs cells slots hP hS hl hc hs
  exact lv_lload_n hC.1 hC.2.1 d rfl (jv_ld (v := .long x) hl rfl) (kk hC lsA H locs cells slots hP hS hl hc hs)
theorem j_lload_3 {g : jv_G} {X : jv_X} {I : jv_I} {pc n : Nat} {st : List Value} {sh : Nat → jv_S} {V : Nat → Nat → Int32} {L : Nat → Nat → Int64} {k z : Nat} {v0 v1 v2 : Option Value} {rest : List (Option Value)} {x : Int64} (d : decode (jb I) pc = .ok (.lload 3, 2)) (kk : jv_J g X I (pc + 2) (v0 :: v1 :: v2 :: some (.long x) :: rest) (.long x :: st) n sh V L k z) : jv_J g X I (pc) (v0 :: v1 :: v2 :: some (.long x) :: rest) (st) n sh V L k z := by
  obtain ⟨p, l, e, R, s, m, args, below, meth, c, Q⟩ := X
  intro hC lsA H locs cells slots hP hS hl hc hs
  exact lv_lload hC.1 hC.2.1 d (jv_ld (v := .long x) hl rfl) (kk hC lsA H locs cells slots hP hS hl hc hs)
theorem j_dload_n_3 {g : jv_G} {X : jv_X} {I : jv_I} {pc n : Nat} {st : List Value} {sh : Nat → jv_S} {V : Nat → Nat → Int32} {L : Nat → Nat → Int64} {k z : Nat} {v0 v1 v2 : Option Value} {rest : List (Option Value)} {x : UInt64} (d : decode (jb I) pc = .ok (.dload_n 3, 1)) (kk : jv_J g X I (pc + 1) (v0 :: v1 :: v2 :: some (.double x) :: rest) (.double x :: st) n sh V L k z) : jv_J g X I (pc) (v0 :: v1 :: v2 :: some (.double x) :: rest) (st) n sh V L k z := by
  obtain ⟨p, l, e, R, s, m, args, below, meth, c, Q⟩ := X
  intro hC lsA H locs cells slots hP hS hl hc hs
  exact lv_dload_n hC.1 hC.2.1 d rfl (jv_ld (v := .double x) hl rfl) (kk hC lsA H locs cells slots hP hS hl hc hs)
theorem j_dload_3 {g : jv_G} {X : jv_X} {I : jv_I} {pc n : Nat} {st : List Value} {sh : Nat → jv_S} {V : Nat → Nat → Int32} {L : Nat → Nat → Int64} {k z : Nat} {v0 v1 v2 : Option Value} {rest : List (Option Value)} {x : UInt64} (d : decode (jb I) pc = .ok (.dload 3, 2)) (kk : jv_J g X I (pc + 2) (v0 :: v1 :: v2 :: some (.double x) :: rest) (.double x :: st) n sh V L k z) : jv_J g X I (pc) (v0 :: v1 :: v2 :: some (.double x) :: rest) (st) n sh V L k z := by
  obtain ⟨p, l, e, R, s, m, args, below, meth, c, Q⟩ := X
  intro hC lsA H locs cells slots hP hS hl hc hs
  exact lv_dload hC.1 hC.2.1 d (jv_ld (v := .double x) hl rfl) (kk hC lsA H locs cells slots hP hS hl hc hs)
theorem j_istore_n_3 {g : jv_G} {X : jv_X} {I : jv_I} {pc n : Nat} {st : List Value} {sh : Nat → jv_S} {V : Nat → Nat → Int32} {L : Nat → Nat → Int64} {k z : Nat} {v0 v1 v2 : Option Value} {rest : List (Option Value)} {w : Option Value} {x : Int32} (ok : jv_c1 v2 = true) (hn : 3 < jn I) (d : decode (jb I) pc = .ok (.istore_n 3, 1)) (kk : jv_J g X I (pc + 1) (v0 :: v1 :: v2 :: some (.int x) :: rest) (st) n sh V L k z) : jv_J g X I (pc) (v0 :: v1 :: v2 :: w :: rest) (.int x :: st) n sh V L k z := by
  obtain ⟨p, l, e, R, s, m, args, below, meth, c, Q⟩ := X
  intro hC lsA H locs cells slots hP hS hl hc hs
  refine lv_istore_n hC.1 hC.2.1 d rfl hl hn rfl (fun ls1 hl1 => ?_)
  exact kk hC ls1 H locs cells slots hP hS (jv_st1 (ls := v0 :: v1 :: v2 :: w :: rest) (v := .int x) (i := 3) (fun j v hj hv => by
      have hj : j = 2 := by omega
      subst hj
      cases hv
      simpa [jv_c1] using jv_c1n ok) hl1) hc hs
theorem j_istore_3 {g : jv_G} {X : jv_X} {I : jv_I} {pc n : Nat} {st : List Value} {sh : Nat → jv_S} {V : Nat → Nat → Int32} {L : Nat → Nat → Int64} {k z : Nat} {v0 v1 v2 : Option Value} {rest : List (Option Value)} {w : Option Value} {x : Int32} (ok : jv_c1 v2 = true) (hn : 3 < jn I) (d : decode (jb I) pc = .ok (.istore 3, 2)) (kk : jv_J g X I (pc + 2) (v0 :: v1 :: v2 :: some (.int x) :: rest) (st) n sh V L k z) : jv_J g X I (pc) (v0 :: v1 :: v2 :: w :: rest) (.int x :: st) n sh V L k z := by
  obtain ⟨p, l, e, R, s, m, args, below, meth, c, Q⟩ := X
  intro hC lsA H locs cells slots hP hS hl hc hs
  refine lv_istore hC.1 hC.2.1 d hl hn rfl (fun ls1 hl1 => ?_)
  exact kk hC ls1 H locs cells slots hP hS (jv_st1 (ls := v0 :: v1 :: v2 :: w :: rest) (v := .int x) (i := 3) (fun j v hj hv => by
      have hj : j = 2 := by omega
      subst hj
      cases hv
      simpa [jv_c1] using jv_c1n ok) hl1) hc hs
theorem j_astore_n_3 {g : jv_G} {X : jv_X} {I : jv_I} {pc n : Nat} {st : List Value} {sh : Nat → jv_S} {V : Nat → Nat → Int32} {L : Nat → Nat → Int64} {k z : Nat} {v0 v1 v2 : Option Value} {rest : List (Option Value)} {w : Option Value} {x : Nat} (ok : jv_c1 v2 = true) (hn : 3 < jn I) (d : decode (jb I) pc = .ok (.astore_n 3, 1)) (kk : jv_J g X I (pc + 1) (v0 :: v1 :: v2 :: some (jv_r g x) :: rest) (st) n sh V L k z) : jv_J g X I (pc) (v0 :: v1 :: v2 :: w :: rest) (jv_r g x :: st) n sh V L k z := by
  obtain ⟨p, l, e, R, s, m, args, below, meth, c, Q⟩ := X
  intro hC lsA H locs cells slots hP hS hl hc hs
  refine lv_astore_n hC.1 hC.2.1 d rfl hl hn rfl (fun ls1 hl1 => ?_)
  exact kk hC ls1 H locs cells slots hP hS (jv_st1 (ls := v0 :: v1 :: v2 :: w :: rest) (v := .ref (g.1 + x)) (i := 3) (fun j v hj hv => by
      have hj : j = 2 := by omega
      subst hj
      cases hv
      simpa [jv_c1] using jv_c1n ok) hl1) hc hs
theorem j_astore_3 {g : jv_G} {X : jv_X} {I : jv_I} {pc n : Nat} {st : List Value} {sh : Nat → jv_S} {V : Nat → Nat → Int32} {L : Nat → Nat → Int64} {k z : Nat} {v0 v1 v2 : Option Value} {rest : List (Option Value)} {w : Option Value} {x : Nat} (ok : jv_c1 v2 = true) (hn : 3 < jn I) (d : decode (jb I) pc = .ok (.astore 3, 2)) (kk : jv_J g X I (pc + 2) (v0 :: v1 :: v2 :: some (jv_r g x) :: rest) (st) n sh V L k z) : jv_J g X I (pc) (v0 :: v1 :: v2 :: w :: rest) (jv_r g x :: st) n sh V L k z := by
  obtain ⟨p, l, e, R, s, m, args, below, meth, c, Q⟩ := X
  intro hC lsA H locs cells slots hP hS hl hc hs
  refine lv_astore hC.1 hC.2.1 d hl hn rfl (fun ls1 hl1 => ?_)
  exact kk hC ls1 H locs cells slots hP hS (jv_st1 (ls := v0 :: v1 :: v2 :: w :: rest) (v := .ref (g.1 + x)) (i := 3) (fun j v hj hv => by
      have hj : j = 2 := by omega
      subst hj
      cases hv
      simpa [jv_c1] using jv_c1n ok) hl1) hc hs
theorem j_lstore_n_3 {g : jv_G} {X : jv_X} {I : jv_I} {pc n : Nat} {st : List Value} {sh : Nat → jv_S} {V : Nat → Nat → Int32} {L : Nat → Nat → Int64} {k z : Nat} {v0 v1 v2 : Option Value} {rest : List (Option Value)} {w w2 : Option Value} {x : Int64} (ok : jv_c1 v2 = true) (hn : 4 < jn I) (d : decode (jb I) pc = .ok (.lstore_n 3, 1)) (kk : jv_J g X I (pc + 1) (v0 :: v1 :: v2 :: some (.long x) :: none :: rest) (st) n sh V L k z) : jv_J g X I (pc) (v0 :: v1 :: v2 :: w :: w2 :: rest) (.long x :: st) n sh V L k z := by
  obtain ⟨p, l, e, R, s, m, args, below, meth, c, Q⟩ := X
  intro hC lsA H locs cells slots hP hS hl hc hs
  refine lv_lstore_n hC.1 hC.2.1 d rfl hl hn rfl (fun ls1 hl1 => ?_)
  exact kk hC ls1 H locs cells slots hP hS (jv_st2 (ls := v0 :: v1 :: v2 :: w :: w2 :: rest) (v := .long x) (i := 3) (fun j v hj hv => by
      have hj : j = 2 := by omega
      subst hj
      cases hv
      simpa [jv_c1] using jv_c1n ok) hl1) hc hs
theorem j_lstore_3 {g : jv_G} {X : jv_X} {I : jv_I} {pc n : Nat} {st : List Value} {sh : Nat → jv_S} {V : Nat → Nat → Int32} {L : Nat → Nat → Int64} {k z : Nat} {v0 v1 v2 : Option Value} {rest : List (Option Value)} {w w2 : Option Value} {x : Int64} (ok : jv_c1 v2 = true) (hn : 4 < jn I) (d : decode (jb I) pc = .ok (.lstore 3, 2)) (kk : jv_J g X I (pc + 2) (v0 :: v1 :: v2 :: some (.long x) :: none :: rest) (st) n sh V L k z) : jv_J g X I (pc) (v0 :: v1 :: v2 :: w :: w2 :: rest) (.long x :: st) n sh V L k z := by
  obtain ⟨p, l, e, R, s, m, args, below, meth, c, Q⟩ := X
  intro hC lsA H locs cells slots hP hS hl hc hs
  refine lv_lstore hC.1 hC.2.1 d hl hn rfl (fun ls1 hl1 => ?_)
  exact kk hC ls1 H locs cells slots hP hS (jv_st2 (ls := v0 :: v1 :: v2 :: w :: w2 :: rest) (v := .long x) (i := 3) (fun j v hj hv => by
      have hj : j = 2 := by omega
      subst hj
      cases hv
      simpa [jv_c1] using jv_c1n ok) hl1) hc hs
theorem j_dstore_n_3 {g : jv_G} {X : jv_X} {I : jv_I} {pc n : Nat} {st : List Value} {sh : Nat → jv_S} {V : Nat → Nat → Int32} {L : Nat → Nat → Int64} {k z : Nat} {v0 v1 v2 : Option Value} {rest : List (Option Value)} {w w2 : Option Value} {x : UInt64} (ok : jv_c1 v2 = true) (hn : 4 < jn I) (d : decode (jb I) pc = .ok (.dstore_n 3, 1)) (kk : jv_J g X I (pc + 1) (v0 :: v1 :: v2 :: some (.double x) :: none :: rest) (st) n sh V L k z) : jv_J g X I (pc) (v0 :: v1 :: v2 :: w :: w2 :: rest) (.double x :: st) n sh V L k z := by
  obtain ⟨p, l, e, R, s, m, args, below, meth, c, Q⟩ := X
  intro hC lsA H locs cells slots hP hS hl hc hs
  refine lv_dstore_n hC.1 hC.2.1 d rfl hl hn rfl (fun ls1 hl1 => ?_)
  exact kk hC ls1 H locs cells slots hP hS (jv_st2 (ls := v0 :: v1 :: v2 :: w :: w2 :: rest) (v := .double x) (i := 3) (fun j v hj hv => by
      have hj : j = 2 := by omega
      subst hj
      cases hv
      simpa [jv_c1] using jv_c1n ok) hl1) hc hs
theorem j_dstore_3 {g : jv_G} {X : jv_X} {I : jv_I} {pc n : Nat} {st : List Value} {sh : Nat → jv_S} {V : Nat → Nat → Int32} {L : Nat → Nat → Int64} {k z : Nat} {v0 v1 v2 : Option Value} {rest : List (Option Value)} {w w2 : Option Value} {x : UInt64} (ok : jv_c1 v2 = true) (hn : 4 < jn I) (d : decode (jb I) pc = .ok (.dstore 3, 2)) (kk : jv_J g X I (pc + 2) (v0 :: v1 :: v2 :: some (.double x) :: none :: rest) (st) n sh V L k z) : jv_J g X I (pc) (v0 :: v1 :: v2 :: w :: w2 :: rest) (.double x :: st) n sh V L k z := by
  obtain ⟨p, l, e, R, s, m, args, below, meth, c, Q⟩ := X
  intro hC lsA H locs cells slots hP hS hl hc hs
  refine lv_dstore hC.1 hC.2.1 d hl hn rfl (fun ls1 hl1 => ?_)
  exact kk hC ls1 H locs cells slots hP hS (jv_st2 (ls := v0 :: v1 :: v2 :: w :: w2 :: rest) (v := .double x) (i := 3) (fun j v hj hv => by
      have hj : j = 2 := by omega
      subst hj
      cases hv
      simpa [jv_c1] using jv_c1n ok) hl1) hc hs
theorem j_iinc_3 {g : jv_G} {X : jv_X} {I : jv_I} {pc n : Nat} {st : List Value} {sh : Nat → jv_S} {V : Nat → Nat → Int32} {L : Nat → Nat → Int64} {k z : Nat} {v0 v1 v2 : Option Value} {rest : List (Option Value)} {x v : Int32} {q : Int} (ok : jv_c1 v2 = true) (hn : 3 < jn I) (d : decode (jb I) pc = .ok (.iinc 3 q, 3)) (hv : x + Int32.ofInt q = v) (kk : jv_J g X I (pc + 3) (v0 :: v1 :: v2 :: some (.int v) :: rest) (st) n sh V L k z) : jv_J g X I (pc) (v0 :: v1 :: v2 :: some (.int x) :: rest) (st) n sh V L k z := by
  obtain ⟨p, l, e, R, s, m, args, below, meth, c, Q⟩ := X
  intro hC lsA H locs cells slots hP hS hl hc hs
  obtain ⟨q9, hq9⟩ := List.getElem?_of_mem (jv_lst_mem.mpr (show (v0 :: v1 :: v2 :: some (.int x) :: rest)[3]? = some (some (.int x)) from rfl))
  refine lv_iinc (v := v) hC.1 hC.2.1 d hl hq9 hv hn rfl (fun ls1 hl1 => ?_)
  exact kk hC ls1 H locs cells slots hP hS (jv_st1 (ls := v0 :: v1 :: v2 :: some (.int x) :: rest) (v := .int v) (i := 3) (fun j v hj hv => by
      have hj : j = 2 := by omega
      subst hj
      cases hv
      simpa [jv_c1] using jv_c1n ok) hl1) hc hs
theorem j_inc1_3 {g : jv_G} {X : jv_X} {I : jv_I} {pc n : Nat} {st : List Value} {sh : Nat → jv_S} {V : Nat → Nat → Int32} {L : Nat → Nat → Int64} {k z : Nat} {v0 v1 v2 : Option Value} {rest : List (Option Value)}  {x : Nat} (ok : jv_c1 v2 = true) (hn : 3 < jn I) (d : decode (jb I) pc = .ok (.iinc 3 1, 3)) (kk : jv_J g X I (pc + 3) (v0 :: v1 :: v2 :: some (.int (nI (x + 1))) :: rest) (st) n sh V L k z) : jv_J g X I (pc) (v0 :: v1 :: v2 :: some (.int (nI x)) :: rest) (st) n sh V L k z := j_iinc_3 ok hn d (jv_inc x) kk
theorem j_iload_4 {g : jv_G} {X : jv_X} {I : jv_I} {pc n : Nat} {st : List Value} {sh : Nat → jv_S} {V : Nat → Nat → Int32} {L : Nat → Nat → Int64} {k z : Nat} {v0 v1 v2 v3 : Option Value} {rest : List (Option Value)} {x : Int32} (d : decode (jb I) pc = .ok (.iload 4, 2)) (kk : jv_J g X I (pc + 2) (v0 :: v1 :: v2 :: v3 :: some (.int x) :: rest) (.int x :: st) n sh V L k z) : jv_J g X I (pc) (v0 :: v1 :: v2 :: v3 :: some (.int x) :: rest) (st) n sh V L k z := by
  obtain ⟨p, l, e, R, s, m, args, below, meth, c, Q⟩ := X
  intro hC lsA H locs cells slots hP hS hl hc hs
  exact lv_iload hC.1 hC.2.1 d (jv_ld (v := .int x) hl rfl) (kk hC lsA H locs cells slots hP hS hl hc hs)
theorem j_aload_4 {g : jv_G} {X : jv_X} {I : jv_I} {pc n : Nat} {st : List Value} {sh : Nat → jv_S} {V : Nat → Nat → Int32} {L : Nat → Nat → Int64} {k z : Nat} {v0 v1 v2 v3 : Option Value} {rest : List (Option Value)} {x : Nat} (d : decode (jb I) pc = .ok (.aload 4, 2)) (kk : jv_J g X I (pc + 2) (v0 :: v1 :: v2 :: v3 :: some (jv_r g x) :: rest) (jv_r g x :: st) n sh V L k z) : jv_J g X I (pc) (v0 :: v1 :: v2 :: v3 :: some (jv_r g x) :: rest) (st) n sh V L k z := by
  obtain ⟨p, l, e, R, s, m, args, below, meth, c, Q⟩ := X
  intro hC lsA H locs cells slots hP hS hl hc hs
  exact lv_aload hC.1 hC.2.1 d (jv_ld (v := jv_r g x) hl rfl) (kk hC lsA H locs cells slots hP hS hl hc hs)
theorem j_lload_4 {g : jv_G} {X : jv_X} {I : jv_I} {pc n : Nat} {st : List Value} {sh : Nat → jv_S} {V : Nat → Nat → Int32} {L : Nat → Nat → Int64} {k z : Nat} {v0 v1 v2 v3 : Option Value} {rest : List (Option Value)} {x : Int64} (d : decode (jb I) pc = .ok (.lload 4, 2)) (kk : jv_J g X I (pc + 2) (v0 :: v1 :: v2 :: v3 :: some (.long x) :: rest) (.long x :: st) n sh V L k z) : jv_J g X I (pc) (v0 :: v1 :: v2 :: v3 :: some (.long x) :: rest) (st) n sh V L k z := by
  obtain ⟨p, l, e, R, s, m, args, below, meth, c, Q⟩ := X
  intro hC lsA H locs cells slots hP hS hl hc hs
  exact lv_lload hC.1 hC.2.1 d (jv_ld (v := .long x) hl rfl) (kk hC lsA H locs cells slots hP hS hl hc hs)
theorem j_dload_4 {g : jv_G} {X : jv_X} {I : jv_I} {pc n : Nat} {st : List Value} {sh : Nat → jv_S} {V : Nat → Nat → Int32} {L : Nat → Nat → Int64} {k z : Nat} {v0 v1 v2 v3 : Option Value} {rest : List (Option Value)} {x : UInt64} (d : decode (jb I) pc = .ok (.dload 4, 2)) (kk : jv_J g X I (pc + 2) (v0 :: v1 :: v2 :: v3 :: some (.double x) :: rest) (.double x :: st) n sh V L k z) : jv_J g X I (pc) (v0 :: v1 :: v2 :: v3 :: some (.double x) :: rest) (st) n sh V L k z := by
  obtain ⟨p, l, e, R, s, m, args, below, meth, c, Q⟩ := X
  intro hC lsA H locs cells slots hP hS hl hc hs
  exact lv_dload hC.1 hC.2.1 d (jv_ld (v := .double x) hl rfl) (kk hC lsA H locs cells slots hP hS hl hc hs)
theorem j_istore_4 {g : jv_G} {X : jv_X} {I : jv_I} {pc n : Nat} {st : List Value} {sh : Nat → jv_S} {V : Nat → Nat → Int32} {L : Nat → Nat → Int64} {k z : Nat} {v0 v1 v2 v3 : Option Value} {rest : List (Option Value)} {w : Option Value} {x : Int32} (ok : jv_c1 v3 = true) (hn : 4 < jn I) (d : decode (jb I) pc = .ok (.istore 4, 2)) (kk : jv_J g X I (pc + 2) (v0 :: v1 :: v2 :: v3 :: some (.int x) :: rest) (st) n sh V L k z) : jv_J g X I (pc) (v0 :: v1 :: v2 :: v3 :: w :: rest) (.int x :: st) n sh V L k z := by
  obtain ⟨p, l, e, R, s, m, args, below, meth, c, Q⟩ := X
  intro hC lsA H locs cells slots hP hS hl hc hs
  refine lv_istore hC.1 hC.2.1 d hl hn rfl (fun ls1 hl1 => ?_)
  exact kk hC ls1 H locs cells slots hP hS (jv_st1 (ls := v0 :: v1 :: v2 :: v3 :: w :: rest) (v := .int x) (i := 4) (fun j v hj hv => by
      have hj : j = 3 := by omega
      subst hj
      cases hv
      simpa [jv_c1] using jv_c1n ok) hl1) hc hs
theorem j_astore_4 {g : jv_G} {X : jv_X} {I : jv_I} {pc n : Nat} {st : List Value} {sh : Nat → jv_S} {V : Nat → Nat → Int32} {L : Nat → Nat → Int64} {k z : Nat} {v0 v1 v2 v3 : Option Value} {rest : List (Option Value)} {w : Option Value} {x : Nat} (ok : jv_c1 v3 = true) (hn : 4 < jn I) (d : decode (jb I) pc = .ok (.astore 4, 2)) (kk : jv_J g X I (pc + 2) (v0 :: v1 :: v2 :: v3 :: some (jv_r g x) :: rest) (st) n sh V L k z) : jv_J g X I (pc) (v0 :: v1 :: v2 :: v3 :: w :: rest) (jv_r g x :: st) n sh V L k z := by
  obtain ⟨p, l, e, R, s, m, args, below, meth, c, Q⟩ := X
  intro hC lsA H locs cells slots hP hS hl hc hs
  refine lv_astore hC.1 hC.2.1 d hl hn rfl (fun ls1 hl1 => ?_)
  exact kk hC ls1 H locs cells slots hP hS (jv_st1 (ls := v0 :: v1 :: v2 :: v3 :: w :: rest) (v := .ref (g.1 + x)) (i := 4) (fun j v hj hv => by
      have hj : j = 3 := by omega
      subst hj
      cases hv
      simpa [jv_c1] using jv_c1n ok) hl1) hc hs
theorem j_lstore_4 {g : jv_G} {X : jv_X} {I : jv_I} {pc n : Nat} {st : List Value} {sh : Nat → jv_S} {V : Nat → Nat → Int32} {L : Nat → Nat → Int64} {k z : Nat} {v0 v1 v2 v3 : Option Value} {rest : List (Option Value)} {w w2 : Option Value} {x : Int64} (ok : jv_c1 v3 = true) (hn : 5 < jn I) (d : decode (jb I) pc = .ok (.lstore 4, 2)) (kk : jv_J g X I (pc + 2) (v0 :: v1 :: v2 :: v3 :: some (.long x) :: none :: rest) (st) n sh V L k z) : jv_J g X I (pc) (v0 :: v1 :: v2 :: v3 :: w :: w2 :: rest) (.long x :: st) n sh V L k z := by
  obtain ⟨p, l, e, R, s, m, args, below, meth, c, Q⟩ := X
  intro hC lsA H locs cells slots hP hS hl hc hs
  refine lv_lstore hC.1 hC.2.1 d hl hn rfl (fun ls1 hl1 => ?_)
  exact kk hC ls1 H locs cells slots hP hS (jv_st2 (ls := v0 :: v1 :: v2 :: v3 :: w :: w2 :: rest) (v := .long x) (i := 4) (fun j v hj hv => by
      have hj : j = 3 := by omega
      subst hj
      cases hv
      simpa [jv_c1] using jv_c1n ok) hl1) hc hs
theorem j_dstore_4 {g : jv_G} {X : jv_X} {I : jv_I} {pc n : Nat} {st : List Value} {sh : Nat → jv_S} {V : Nat → Nat → Int32} {L : Nat → Nat → Int64} {k z : Nat} {v0 v1 v2 v3 : Option Value} {rest : List (Option Value)} {w w2 : Option Value} {x : UInt64} (ok : jv_c1 v3 = true) (hn : 5 < jn I) (d : decode (jb I) pc = .ok (.dstore 4, 2)) (kk : jv_J g X I (pc + 2) (v0 :: v1 :: v2 :: v3 :: some (.double x) :: none :: rest) (st) n sh V L k z) : jv_J g X I (pc) (v0 :: v1 :: v2 :: v3 :: w :: w2 :: rest) (.double x :: st) n sh V L k z := by
  obtain ⟨p, l, e, R, s, m, args, below, meth, c, Q⟩ := X
  intro hC lsA H locs cells slots hP hS hl hc hs
  refine lv_dstore hC.1 hC.2.1 d hl hn rfl (fun ls1 hl1 => ?_)
  exact kk hC ls1 H locs cells slots hP hS (jv_st2 (ls := v0 :: v1 :: v2 :: v3 :: w :: w2 :: rest) (v := .double x) (i := 4) (fun j v hj hv => by
      have hj : j = 3 := by omega
      subst hj
      cases hv
      simpa [jv_c1] using jv_c1n ok) hl1) hc hs
theorem j_iinc_4 {g : jv_G} {X : jv_X} {I : jv_I} {pc n : Nat} {st : List Value} {sh : Nat → jv_S} {V : Nat → Nat → Int32} {L : Nat → Nat → Int64} {k z : Nat} {v0 v1 v2 v3 : Option Value} {rest : List (Option Value)} {x v : Int32} {q : Int} (ok : jv_c1 v3 = true) (hn : 4 < jn I) (d : decode (jb I) pc = .ok (.iinc 4 q, 3)) (hv : x + Int32.ofInt q = v) (kk : jv_J g X I (pc + 3) (v0 :: v1 :: v2 :: v3 :: some (.int v) :: rest) (st) n sh V L k z) : jv_J g X I (pc) (v0 :: v1 :: v2 :: v3 :: some (.int x) :: rest) (st) n sh V L k z := by
  obtain ⟨p, l, e, R, s, m, args, below, meth, c, Q⟩ := X
  intro hC lsA H locs cells slots hP hS hl hc hs
  obtain ⟨q9, hq9⟩ := List.getElem?_of_mem (jv_lst_mem.mpr (show (v0 :: v1 :: v2 :: v3 :: some (.int x) :: rest)[4]? = some (some (.int x)) from rfl))
  refine lv_iinc (v := v) hC.1 hC.2.1 d hl hq9 hv hn rfl (fun ls1 hl1 => ?_)
  exact kk hC ls1 H locs cells slots hP hS (jv_st1 (ls := v0 :: v1 :: v2 :: v3 :: some (.int x) :: rest) (v := .int v) (i := 4) (fun j v hj hv => by
      have hj : j = 3 := by omega
      subst hj
      cases hv
      simpa [jv_c1] using jv_c1n ok) hl1) hc hs
theorem j_inc1_4 {g : jv_G} {X : jv_X} {I : jv_I} {pc n : Nat} {st : List Value} {sh : Nat → jv_S} {V : Nat → Nat → Int32} {L : Nat → Nat → Int64} {k z : Nat} {v0 v1 v2 v3 : Option Value} {rest : List (Option Value)}  {x : Nat} (ok : jv_c1 v3 = true) (hn : 4 < jn I) (d : decode (jb I) pc = .ok (.iinc 4 1, 3)) (kk : jv_J g X I (pc + 3) (v0 :: v1 :: v2 :: v3 :: some (.int (nI (x + 1))) :: rest) (st) n sh V L k z) : jv_J g X I (pc) (v0 :: v1 :: v2 :: v3 :: some (.int (nI x)) :: rest) (st) n sh V L k z := j_iinc_4 ok hn d (jv_inc x) kk
theorem j_iload_5 {g : jv_G} {X : jv_X} {I : jv_I} {pc n : Nat} {st : List Value} {sh : Nat → jv_S} {V : Nat → Nat → Int32} {L : Nat → Nat → Int64} {k z : Nat} {v0 v1 v2 v3 v4 : Option Value} {rest : List (Option Value)} {x : Int32} (d : decode (jb I) pc = .ok (.iload 5, 2)) (kk : jv_J g X I (pc + 2) (v0 :: v1 :: v2 :: v3 :: v4 :: some (.int x) :: rest) (.int x :: st) n sh V L k z) : jv_J g X I (pc) (v0 :: v1 :: v2 :: v3 :: v4 :: some (.int x) :: rest) (st) n sh V L k z := by
  obtain ⟨p, l, e, R, s, m, args, below, meth, c, Q⟩ := X
  intro hC lsA H locs cells slots hP hS hl hc hs
  exact lv_iload hC.1 hC.2.1 d (jv_ld (v := .int x) hl rfl) (kk hC lsA H locs cells slots hP hS hl hc hs)
theorem j_aload_5 {g : jv_G} {X : jv_X} {I : jv_I} {pc n : Nat} {st : List Value} {sh : Nat → jv_S} {V : Nat → Nat → Int32} {L : Nat → Nat → Int64} {k z : Nat} {v0 v1 v2 v3 v4 : Option Value} {rest : List (Option Value)} {x : Nat} (d : decode (jb I) pc = .ok (.aload 5, 2)) (kk : jv_J g X I (pc + 2) (v0 :: v1 :: v2 :: v3 :: v4 :: some (jv_r g x) :: rest) (jv_r g x :: st) n sh V L k z) : jv_J g X I (pc) (v0 :: v1 :: v2 :: v3 :: v4 :: some (jv_r g x) :: rest) (st) n sh V L k z := by
  obtain ⟨p, l, e, R, s, m, args, below, meth, c, Q⟩ := X
  intro hC lsA H locs cells slots hP hS hl hc hs
  exact lv_aload hC.1 hC.2.1 d (jv_ld (v := jv_r g x) hl rfl) (kk hC lsA H locs cells slots hP hS hl hc hs)
theorem j_lload_5 {g : jv_G} {X : jv_X} {I : jv_I} {pc n : Nat} {st : List Value} {sh : Nat → jv_S} {V : Nat → Nat → Int32} {L : Nat → Nat → Int64} {k z : Nat} {v0 v1 v2 v3 v4 : Option Value} {rest : List (Option Value)} {x : Int64} (d : decode (jb I) pc = .ok (.lload 5, 2)) (kk : jv_J g X I (pc + 2) (v0 :: v1 :: v2 :: v3 :: v4 :: some (.long x) :: rest) (.long x :: st) n sh V L k z) : jv_J g X I (pc) (v0 :: v1 :: v2 :: v3 :: v4 :: some (.long x) :: rest) (st) n sh V L k z := by
  obtain ⟨p, l, e, R, s, m, args, below, meth, c, Q⟩ := X
  intro hC lsA H locs cells slots hP hS hl hc hs
  exact lv_lload hC.1 hC.2.1 d (jv_ld (v := .long x) hl rfl) (kk hC lsA H locs cells slots hP hS hl hc hs)
theorem j_dload_5 {g : jv_G} {X : jv_X} {I : jv_I} {pc n : Nat} {st : List Value} {sh : Nat → jv_S} {V : Nat → Nat → Int32} {L : Nat → Nat → Int64} {k z : Nat} {v0 v1 v2 v3 v4 : Option Value} {rest : List (Option Value)} {x : UInt64} (d : decode (jb I) pc = .ok (.dload 5, 2)) (kk : jv_J g X I (pc + 2) (v0 :: v1 :: v2 :: v3 :: v4 :: some (.double x) :: rest) (.double x :: st) n sh V L k z) : jv_J g X I (pc) (v0 :: v1 :: v2 :: v3 :: v4 :: some (.double x) :: rest) (st) n sh V L k z := by
  obtain ⟨p, l, e, R, s, m, args, below, meth, c, Q⟩ := X
  intro hC lsA H locs cells slots hP hS hl hc hs
  exact lv_dload hC.1 hC.2.1 d (jv_ld (v := .double x) hl rfl) (kk hC lsA H locs cells slots hP hS hl hc hs)
theorem j_istore_5 {g : jv_G} {X : jv_X} {I : jv_I} {pc n : Nat} {st : List Value} {sh : Nat → jv_S} {V : Nat → Nat → Int32} {L : Nat → Nat → Int64} {k z : Nat} {v0 v1 v2 v3 v4 : Option Value} {rest : List (Option Value)} {w : Option Value} {x : Int32} (ok : jv_c1 v4 = true) (hn : 5 < jn I) (d : decode (jb I) pc = .ok (.istore 5, 2)) (kk : jv_J g X I (pc + 2) (v0 :: v1 :: v2 :: v3 :: v4 :: some (.int x) :: rest) (st) n sh V L k z) : jv_J g X I (pc) (v0 :: v1 :: v2 :: v3 :: v4 :: w :: rest) (.int x :: st) n sh V L k z := by
  obtain ⟨p, l, e, R, s, m, args, below, meth, c, Q⟩ := X
  intro hC lsA H locs cells slots hP hS hl hc hs
  refine lv_istore hC.1 hC.2.1 d hl hn rfl (fun ls1 hl1 => ?_)
  exact kk hC ls1 H locs cells slots hP hS (jv_st1 (ls := v0 :: v1 :: v2 :: v3 :: v4 :: w :: rest) (v := .int x) (i := 5) (fun j v hj hv => by
      have hj : j = 4 := by omega
      subst hj
      cases hv
      simpa [jv_c1] using jv_c1n ok) hl1) hc hs
theorem j_astore_5 {g : jv_G} {X : jv_X} {I : jv_I} {pc n : Nat} {st : List Value} {sh : Nat → jv_S} {V : Nat → Nat → Int32} {L : Nat → Nat → Int64} {k z : Nat} {v0 v1 v2 v3 v4 : Option Value} {rest : List (Option Value)} {w : Option Value} {x : Nat} (ok : jv_c1 v4 = true) (hn : 5 < jn I) (d : decode (jb I) pc = .ok (.astore 5, 2)) (kk : jv_J g X I (pc + 2) (v0 :: v1 :: v2 :: v3 :: v4 :: some (jv_r g x) :: rest) (st) n sh V L k z) : jv_J g X I (pc) (v0 :: v1 :: v2 :: v3 :: v4 :: w :: rest) (jv_r g x :: st) n sh V L k z := by
  obtain ⟨p, l, e, R, s, m, args, below, meth, c, Q⟩ := X
  intro hC lsA H locs cells slots hP hS hl hc hs
  refine lv_astore hC.1 hC.2.1 d hl hn rfl (fun ls1 hl1 => ?_)
  exact kk hC ls1 H locs cells slots hP hS (jv_st1 (ls := v0 :: v1 :: v2 :: v3 :: v4 :: w :: rest) (v := .ref (g.1 + x)) (i := 5) (fun j v hj hv => by
      have hj : j = 4 := by omega
      subst hj
      cases hv
      simpa [jv_c1] using jv_c1n ok) hl1) hc hs
theorem j_lstore_5 {g : jv_G} {X : jv_X} {I : jv_I} {pc n : Nat} {st : List Value} {sh : Nat → jv_S} {V : Nat → Nat → Int32} {L : Nat → Nat → Int64} {k z : Nat} {v0 v1 v2 v3 v4 : Option Value} {rest : List (Option Value)} {w w2 : Option Value} {x : Int64} (ok : jv_c1 v4 = true) (hn : 6 < jn I) (d : decode (jb I) pc = .ok (.lstore 5, 2)) (kk : jv_J g X I (pc + 2) (v0 :: v1 :: v2 :: v3 :: v4 :: some (.long x) :: none :: rest) (st) n sh V L k z) : jv_J g X I (pc) (v0 :: v1 :: v2 :: v3 :: v4 :: w :: w2 :: rest) (.long x :: st) n sh V L k z := by
  obtain ⟨p, l, e, R, s, m, args, below, meth, c, Q⟩ := X
  intro hC lsA H locs cells slots hP hS hl hc hs
  refine lv_lstore hC.1 hC.2.1 d hl hn rfl (fun ls1 hl1 => ?_)
  exact kk hC ls1 H locs cells slots hP hS (jv_st2 (ls := v0 :: v1 :: v2 :: v3 :: v4 :: w :: w2 :: rest) (v := .long x) (i := 5) (fun j v hj hv => by
      have hj : j = 4 := by omega
      subst hj
      cases hv
      simpa [jv_c1] using jv_c1n ok) hl1) hc hs
theorem j_dstore_5 {g : jv_G} {X : jv_X} {I : jv_I} {pc n : Nat} {st : List Value} {sh : Nat → jv_S} {V : Nat → Nat → Int32} {L : Nat → Nat → Int64} {k z : Nat} {v0 v1 v2 v3 v4 : Option Value} {rest : List (Option Value)} {w w2 : Option Value} {x : UInt64} (ok : jv_c1 v4 = true) (hn : 6 < jn I) (d : decode (jb I) pc = .ok (.dstore 5, 2)) (kk : jv_J g X I (pc + 2) (v0 :: v1 :: v2 :: v3 :: v4 :: some (.double x) :: none :: rest) (st) n sh V L k z) : jv_J g X I (pc) (v0 :: v1 :: v2 :: v3 :: v4 :: w :: w2 :: rest) (.double x :: st) n sh V L k z := by
  obtain ⟨p, l, e, R, s, m, args, below, meth, c, Q⟩ := X
  intro hC lsA H locs cells slots hP hS hl hc hs
  refine lv_dstore hC.1 hC.2.1 d hl hn rfl (fun ls1 hl1 => ?_)
  exact kk hC ls1 H locs cells slots hP hS (jv_st2 (ls := v0 :: v1 :: v2 :: v3 :: v4 :: w :: w2 :: rest) (v := .double x) (i := 5) (fun j v hj hv => by
      have hj : j = 4 := by omega
      subst hj
      cases hv
      simpa [jv_c1] using jv_c1n ok) hl1) hc hs
theorem j_iinc_5 {g : jv_G} {X : jv_X} {I : jv_I} {pc n : Nat} {st : List Value} {sh : Nat → jv_S} {V : Nat → Nat → Int32} {L : Nat → Nat → Int64} {k z : Nat} {v0 v1 v2 v3 v4 : Option Value} {rest : List (Option Value)} {x v : Int32} {q : Int} (ok : jv_c1 v4 = true) (hn : 5 < jn I) (d : decode (jb I) pc = .ok (.iinc 5 q, 3)) (hv : x + Int32.ofInt q = v) (kk : jv_J g X I (pc + 3) (v0 :: v1 :: v2 :: v3 :: v4 :: some (.int v) :: rest) (st) n sh V L k z) : jv_J g X I (pc) (v0 :: v1 :: v2 :: v3 :: v4 :: some (.int x) :: rest) (st) n sh V L k z := by
  obtain ⟨p, l, e, R, s, m, args, below, meth, c, Q⟩ := X
  intro hC lsA H locs cells slots hP hS hl hc hs
  obtain ⟨q9, hq9⟩ := List.getElem?_of_mem (jv_lst_mem.mpr (show (v0 :: v1 :: v2 :: v3 :: v4 :: some (.int x) :: rest)[5]? = some (some (.int x)) from rfl))
  refine lv_iinc (v := v) hC.1 hC.2.1 d hl hq9 hv hn rfl (fun ls1 hl1 => ?_)
  exact kk hC ls1 H locs cells slots hP hS (jv_st1 (ls := v0 :: v1 :: v2 :: v3 :: v4 :: some (.int x) :: rest) (v := .int v) (i := 5) (fun j v hj hv => by
      have hj : j = 4 := by omega
      subst hj
      cases hv
      simpa [jv_c1] using jv_c1n ok) hl1) hc hs
theorem j_inc1_5 {g : jv_G} {X : jv_X} {I : jv_I} {pc n : Nat} {st : List Value} {sh : Nat → jv_S} {V : Nat → Nat → Int32} {L : Nat → Nat → Int64} {k z : Nat} {v0 v1 v2 v3 v4 : Option Value} {rest : List (Option Value)}  {x : Nat} (ok : jv_c1 v4 = true) (hn : 5 < jn I) (d : decode (jb I) pc = .ok (.iinc 5 1, 3)) (kk : jv_J g X I (pc + 3) (v0 :: v1 :: v2 :: v3 :: v4 :: some (.int (nI (x + 1))) :: rest) (st) n sh V L k z) : jv_J g X I (pc) (v0 :: v1 :: v2 :: v3 :: v4 :: some (.int (nI x)) :: rest) (st) n sh V L k z := j_iinc_5 ok hn d (jv_inc x) kk
theorem j_iload_6 {g : jv_G} {X : jv_X} {I : jv_I} {pc n : Nat} {st : List Value} {sh : Nat → jv_S} {V : Nat → Nat → Int32} {L : Nat → Nat → Int64} {k z : Nat} {v0 v1 v2 v3 v4 v5 : Option Value} {rest : List (Option Value)} {x : Int32} (d : decode (jb I) pc = .ok (.iload 6, 2)) (kk : jv_J g X I (pc + 2) (v0 :: v1 :: v2 :: v3 :: v4 :: v5 :: some (.int x) :: rest) (.int x :: st) n sh V L k z) : jv_J g X I (pc) (v0 :: v1 :: v2 :: v3 :: v4 :: v5 :: some (.int x) :: rest) (st) n sh V L k z := by
  obtain ⟨p, l, e, R, s, m, args, below, meth, c, Q⟩ := X
  intro hC lsA H locs cells slots hP hS hl hc hs
  exact lv_iload hC.1 hC.2.1 d (jv_ld (v := .int x) hl rfl) (kk hC lsA H locs cells slots hP hS hl hc hs)
theorem j_aload_6 {g : jv_G} {X : jv_X} {I : jv_I} {pc n : Nat} {st : List Value} {sh : Nat → jv_S} {V : Nat → Nat → Int32} {L : Nat → Nat → Int64} {k z : Nat} {v0 v1 v2 v3 v4 v5 : Option Value} {rest : List (Option Value)} {x : Nat} (d : decode (jb I) pc = .ok (.aload 6, 2)) (kk : jv_J g X I (pc + 2) (v0 :: v1 :: v2 :: v3 :: v4 :: v5 :: some (jv_r g x) :: rest) (jv_r g x :: st) n sh V L k z) : jv_J g X I (pc) (v0 :: v1 :: v2 :: v3 :: v4 :: v5 :: some (jv_r g x) :: rest) (st) n sh V L k z := by
  obtain ⟨p, l, e, R, s, m, args, below, meth, c, Q⟩ := X
  intro hC lsA H locs cells slots hP hS hl hc hs
  exact lv_aload hC.1 hC.2.1 d (jv_ld (v := jv_r g x) hl rfl) (kk hC lsA H locs cells slots hP hS hl hc hs)
theorem j_lload_6 {g : jv_G} {X : jv_X} {I : jv_I} {pc n : Nat} {st : List Value} {sh : Nat → jv_S} {V : Nat → Nat → Int32} {L : Nat → Nat → Int64} {k z : Nat} {v0 v1 v2 v3 v4 v5 : Option Value} {rest : List (Option Value)} {x : Int64} (d : decode (jb I) pc = .ok (.lload 6, 2)) (kk : jv_J g X I (pc + 2) (v0 :: v1 :: v2 :: v3 :: v4 :: v5 :: some (.long x) :: rest) (.long x :: st) n sh V L k z) : jv_J g X I (pc) (v0 :: v1 :: v2 :: v3 :: v4 :: v5 :: some (.long x) :: rest) (st) n sh V L k z := by
  obtain ⟨p, l, e, R, s, m, args, below, meth, c, Q⟩ := X
  intro hC lsA H locs cells slots hP hS hl hc hs
  exact lv_lload hC.1 hC.2.1 d (jv_ld (v := .long x) hl rfl) (kk hC lsA H locs cells slots hP hS hl hc hs)
theorem j_dload_6 {g : jv_G} {X : jv_X} {I : jv_I} {pc n : Nat} {st : List Value} {sh : Nat → jv_S} {V : Nat → Nat → Int32} {L : Nat → Nat → Int64} {k z : Nat} {v0 v1 v2 v3 v4 v5 : Option Value} {rest : List (Option Value)} {x : UInt64} (d : decode (jb I) pc = .ok (.dload 6, 2)) (kk : jv_J g X I (pc + 2) (v0 :: v1 :: v2 :: v3 :: v4 :: v5 :: some (.double x) :: rest) (.double x :: st) n sh V L k z) : jv_J g X I (pc) (v0 :: v1 :: v2 :: v3 :: v4 :: v5 :: some (.double x) :: rest) (st) n sh V L k z := by
  obtain ⟨p, l, e, R, s, m, args, below, meth, c, Q⟩ := X
  intro hC lsA H locs cells slots hP hS hl hc hs
  exact lv_dload hC.1 hC.2.1 d (jv_ld (v := .double x) hl rfl) (kk hC lsA H locs cells slots hP hS hl hc hs)
theorem j_istore_6 {g : jv_G} {X : jv_X} {I : jv_I} {pc n : Nat} {st : List Value} {sh : Nat → jv_S} {V : Nat → Nat → Int32} {L : Nat → Nat → Int64} {k z : Nat} {v0 v1 v2 v3 v4 v5 : Option Value} {rest : List (Option Value)} {w : Option Value} {x : Int32} (ok : jv_c1 v5 = true) (hn : 6 < jn I) (d : decode (jb I) pc = .ok (.istore 6, 2)) (kk : jv_J g X I (pc + 2) (v0 :: v1 :: v2 :: v3 :: v4 :: v5 :: some (.int x) :: rest) (st) n sh V L k z) : jv_J g X I (pc) (v0 :: v1 :: v2 :: v3 :: v4 :: v5 :: w :: rest) (.int x :: st) n sh V L k z := by
  obtain ⟨p, l, e, R, s, m, args, below, meth, c, Q⟩ := X
  intro hC lsA H locs cells slots hP hS hl hc hs
  refine lv_istore hC.1 hC.2.1 d hl hn rfl (fun ls1 hl1 => ?_)
  exact kk hC ls1 H locs cells slots hP hS (jv_st1 (ls := v0 :: v1 :: v2 :: v3 :: v4 :: v5 :: w :: rest) (v := .int x) (i := 6) (fun j v hj hv => by
      have hj : j = 5 := by omega
      subst hj
      cases hv
      simpa [jv_c1] using jv_c1n ok) hl1) hc hs
theorem j_astore_6 {g : jv_G} {X : jv_X} {I : jv_I} {pc n : Nat} {st : List Value} {sh : Nat → jv_S} {V : Nat → Nat → Int32} {L : Nat → Nat → Int64} {k z : Nat} {v0 v1 v2 v3 v4 v5 : Option Value} {rest : List (Option Value)} {w : Option Value} {x : Nat} (ok : jv_c1 v5 = true) (hn : 6 < jn I) (d : decode (jb I) pc = .ok (.astore 6, 2)) (kk : jv_J g X I (pc + 2) (v0 :: v1 :: v2 :: v3 :: v4 :: v5 :: some (jv_r g x) :: rest) (st) n sh V L k z) : jv_J g X I (pc) (v0 :: v1 :: v2 :: v3 :: v4 :: v5 :: w :: rest) (jv_r g x :: st) n sh V L k z := by
  obtain ⟨p, l, e, R, s, m, args, below, meth, c, Q⟩ := X
  intro hC lsA H locs cells slots hP hS hl hc hs
  refine lv_astore hC.1 hC.2.1 d hl hn rfl (fun ls1 hl1 => ?_)
  exact kk hC ls1 H locs cells slots hP hS (jv_st1 (ls := v0 :: v1 :: v2 :: v3 :: v4 :: v5 :: w :: rest) (v := .ref (g.1 + x)) (i := 6) (fun j v hj hv => by
      have hj : j = 5 := by omega
      subst hj
      cases hv
      simpa [jv_c1] using jv_c1n ok) hl1) hc hs
theorem j_lstore_6 {g : jv_G} {X : jv_X} {I : jv_I} {pc n : Nat} {st : List Value} {sh : Nat → jv_S} {V : Nat → Nat → Int32} {L : Nat → Nat → Int64} {k z : Nat} {v0 v1 v2 v3 v4 v5 : Option Value} {rest : List (Option Value)} {w w2 : Option Value} {x : Int64} (ok : jv_c1 v5 = true) (hn : 7 < jn I) (d : decode (jb I) pc = .ok (.lstore 6, 2)) (kk : jv_J g X I (pc + 2) (v0 :: v1 :: v2 :: v3 :: v4 :: v5 :: some (.long x) :: none :: rest) (st) n sh V L k z) : jv_J g X I (pc) (v0 :: v1 :: v2 :: v3 :: v4 :: v5 :: w :: w2 :: rest) (.long x :: st) n sh V L k z := by
  obtain ⟨p, l, e, R, s, m, args, below, meth, c, Q⟩ := X
  intro hC lsA H locs cells slots hP hS hl hc hs
  refine lv_lstore hC.1 hC.2.1 d hl hn rfl (fun ls1 hl1 => ?_)
  exact kk hC ls1 H locs cells slots hP hS (jv_st2 (ls := v0 :: v1 :: v2 :: v3 :: v4 :: v5 :: w :: w2 :: rest) (v := .long x) (i := 6) (fun j v hj hv => by
      have hj : j = 5 := by omega
      subst hj
      cases hv
      simpa [jv_c1] using jv_c1n ok) hl1) hc hs
theorem j_dstore_6 {g : jv_G} {X : jv_X} {I : jv_I} {pc n : Nat} {st : List Value} {sh : Nat → jv_S} {V : Nat → Nat → Int32} {L : Nat → Nat → Int64} {k z : Nat} {v0 v1 v2 v3 v4 v5 : Option Value} {rest : List (Option Value)} {w w2 : Option Value} {x : UInt64} (ok : jv_c1 v5 = true) (hn : 7 < jn I) (d : decode (jb I) pc = .ok (.dstore 6, 2)) (kk : jv_J g X I (pc + 2) (v0 :: v1 :: v2 :: v3 :: v4 :: v5 :: some (.double x) :: none :: rest) (st) n sh V L k z) : jv_J g X I (pc) (v0 :: v1 :: v2 :: v3 :: v4 :: v5 :: w :: w2 :: rest) (.double x :: st) n sh V L k z := by
  obtain ⟨p, l, e, R, s, m, args, below, meth, c, Q⟩ := X
  intro hC lsA H locs cells slots hP hS hl hc hs
  refine lv_dstore hC.1 hC.2.1 d hl hn rfl (fun ls1 hl1 => ?_)
  exact kk hC ls1 H locs cells slots hP hS (jv_st2 (ls := v0 :: v1 :: v2 :: v3 :: v4 :: v5 :: w :: w2 :: rest) (v := .double x) (i := 6) (fun j v hj hv => by
      have hj : j = 5 := by omega
      subst hj
      cases hv
      simpa [jv_c1] using jv_c1n ok) hl1) hc hs
theorem j_iinc_6 {g : jv_G} {X : jv_X} {I : jv_I} {pc n : Nat} {st : List Value} {sh : Nat → jv_S} {V : Nat → Nat → Int32} {L : Nat → Nat → Int64} {k z : Nat} {v0 v1 v2 v3 v4 v5 : Option Value} {rest : List (Option Value)} {x v : Int32} {q : Int} (ok : jv_c1 v5 = true) (hn : 6 < jn I) (d : decode (jb I) pc = .ok (.iinc 6 q, 3)) (hv : x + Int32.ofInt q = v) (kk : jv_J g X I (pc + 3) (v0 :: v1 :: v2 :: v3 :: v4 :: v5 :: some (.int v) :: rest) (st) n sh V L k z) : jv_J g X I (pc) (v0 :: v1 :: v2 :: v3 :: v4 :: v5 :: some (.int x) :: rest) (st) n sh V L k z := by
  obtain ⟨p, l, e, R, s, m, args, below, meth, c, Q⟩ := X
  intro hC lsA H locs cells slots hP hS hl hc hs
  obtain ⟨q9, hq9⟩ := List.getElem?_of_mem (jv_lst_mem.mpr (show (v0 :: v1 :: v2 :: v3 :: v4 :: v5 :: some (.int x) :: rest)[6]? = some (some (.int x)) from rfl))
  refine lv_iinc (v := v) hC.1 hC.2.1 d hl hq9 hv hn rfl (fun ls1 hl1 => ?_)
  exact kk hC ls1 H locs cells slots hP hS (jv_st1 (ls := v0 :: v1 :: v2 :: v3 :: v4 :: v5 :: some (.int x) :: rest) (v := .int v) (i := 6) (fun j v hj hv => by
      have hj : j = 5 := by omega
      subst hj
      cases hv
      simpa [jv_c1] using jv_c1n ok) hl1) hc hs
theorem j_inc1_6 {g : jv_G} {X : jv_X} {I : jv_I} {pc n : Nat} {st : List Value} {sh : Nat → jv_S} {V : Nat → Nat → Int32} {L : Nat → Nat → Int64} {k z : Nat} {v0 v1 v2 v3 v4 v5 : Option Value} {rest : List (Option Value)}  {x : Nat} (ok : jv_c1 v5 = true) (hn : 6 < jn I) (d : decode (jb I) pc = .ok (.iinc 6 1, 3)) (kk : jv_J g X I (pc + 3) (v0 :: v1 :: v2 :: v3 :: v4 :: v5 :: some (.int (nI (x + 1))) :: rest) (st) n sh V L k z) : jv_J g X I (pc) (v0 :: v1 :: v2 :: v3 :: v4 :: v5 :: some (.int (nI x)) :: rest) (st) n sh V L k z := j_iinc_6 ok hn d (jv_inc x) kk
theorem j_iload_7 {g : jv_G} {X : jv_X} {I : jv_I} {pc n : Nat} {st : List Value} {sh : Nat → jv_S} {V : Nat → Nat → Int32} {L : Nat → Nat → Int64} {k z : Nat} {v0 v1 v2 v3 v4 v5 v6 : Option Value} {rest : List (Option Value)} {x : Int32} (d : decode (jb I) pc = .ok (.iload 7, 2)) (kk : jv_J g X I (pc + 2) (v0 :: v1 :: v2 :: v3 :: v4 :: v5 :: v6 :: some (.int x) :: rest) (.int x :: st) n sh V L k z) : jv_J g X I (pc) (v0 :: v1 :: v2 :: v3 :: v4 :: v5 :: v6 :: some (.int x) :: rest) (st) n sh V L k z := by
  obtain ⟨p, l, e, R, s, m, args, below, meth, c, Q⟩ := X
  intro hC lsA H locs cells slots hP hS hl hc hs
  exact lv_iload hC.1 hC.2.1 d (jv_ld (v := .int x) hl rfl) (kk hC lsA H locs cells slots hP hS hl hc hs)
theorem j_aload_7 {g : jv_G} {X : jv_X} {I : jv_I} {pc n : Nat} {st : List Value} {sh : Nat → jv_S} {V : Nat → Nat → Int32} {L : Nat → Nat → Int64} {k z : Nat} {v0 v1 v2 v3 v4 v5 v6 : Option Value} {rest : List (Option Value)} {x : Nat} (d : decode (jb I) pc = .ok (.aload 7, 2)) (kk : jv_J g X I (pc + 2) (v0 :: v1 :: v2 :: v3 :: v4 :: v5 :: v6 :: some (jv_r g x) :: rest) (jv_r g x :: st) n sh V L k z) : jv_J g X I (pc) (v0 :: v1 :: v2 :: v3 :: v4 :: v5 :: v6 :: some (jv_r g x) :: rest) (st) n sh V L k z := by
  obtain ⟨p, l, e, R, s, m, args, below, meth, c, Q⟩ := X
  intro hC lsA H locs cells slots hP hS hl hc hs
  exact lv_aload hC.1 hC.2.1 d (jv_ld (v := jv_r g x) hl rfl) (kk hC lsA H locs cells slots hP hS hl hc hs)
theorem j_lload_7 {g : jv_G} {X : jv_X} {I : jv_I} {pc n : Nat} {st : List Value} {sh : Nat → jv_S} {V : Nat → Nat → Int32} {L : Nat → Nat → Int64} {k z : Nat} {v0 v1 v2 v3 v4 v5 v6 : Option Value} {rest : List (Option Value)} {x : Int64} (d : decode (jb I) pc = .ok (.lload 7, 2)) (kk : jv_J g X I (pc + 2) (v0 :: v1 :: v2 :: v3 :: v4 :: v5 :: v6 :: some (.long x) :: rest) (.long x :: st) n sh V L k z) : jv_J g X I (pc) (v0 :: v1 :: v2 :: v3 :: v4 :: v5 :: v6 :: some (.long x) :: rest) (st) n sh V L k z := by
  obtain ⟨p, l, e, R, s, m, args, below, meth, c, Q⟩ := X
  intro hC lsA H locs cells slots hP hS hl hc hs
  exact lv_lload hC.1 hC.2.1 d (jv_ld (v := .long x) hl rfl) (kk hC lsA H locs cells slots hP hS hl hc hs)
theorem j_dload_7 {g : jv_G} {X : jv_X} {I : jv_I} {pc n : Nat} {st : List Value} {sh : Nat → jv_S} {V : Nat → Nat → Int32} {L : Nat → Nat → Int64} {k z : Nat} {v0 v1 v2 v3 v4 v5 v6 : Option Value} {rest : List (Option Value)} {x : UInt64} (d : decode (jb I) pc = .ok (.dload 7, 2)) (kk : jv_J g X I (pc + 2) (v0 :: v1 :: v2 :: v3 :: v4 :: v5 :: v6 :: some (.double x) :: rest) (.double x :: st) n sh V L k z) : jv_J g X I (pc) (v0 :: v1 :: v2 :: v3 :: v4 :: v5 :: v6 :: some (.double x) :: rest) (st) n sh V L k z := by
  obtain ⟨p, l, e, R, s, m, args, below, meth, c, Q⟩ := X
  intro hC lsA H locs cells slots hP hS hl hc hs
  exact lv_dload hC.1 hC.2.1 d (jv_ld (v := .double x) hl rfl) (kk hC lsA H locs cells slots hP hS hl hc hs)
theorem j_istore_7 {g : jv_G} {X : jv_X} {I : jv_I} {pc n : Nat} {st : List Value} {sh : Nat → jv_S} {V : Nat → Nat → Int32} {L : Nat → Nat → Int64} {k z : Nat} {v0 v1 v2 v3 v4 v5 v6 : Option Value} {rest : List (Option Value)} {w : Option Value} {x : Int32} (ok : jv_c1 v6 = true) (hn : 7 < jn I) (d : decode (jb I) pc = .ok (.istore 7, 2)) (kk : jv_J g X I (pc + 2) (v0 :: v1 :: v2 :: v3 :: v4 :: v5 :: v6 :: some (.int x) :: rest) (st) n sh V L k z) : jv_J g X I (pc) (v0 :: v1 :: v2 :: v3 :: v4 :: v5 :: v6 :: w :: rest) (.int x :: st) n sh V L k z := by
  obtain ⟨p, l, e, R, s, m, args, below, meth, c, Q⟩ := X
  intro hC lsA H locs cells slots hP hS hl hc hs
  refine lv_istore hC.1 hC.2.1 d hl hn rfl (fun ls1 hl1 => ?_)
  exact kk hC ls1 H locs cells slots hP hS (jv_st1 (ls := v0 :: v1 :: v2 :: v3 :: v4 :: v5 :: v6 :: w :: rest) (v := .int x) (i := 7) (fun j v hj hv => by
      have hj : j = 6 := by omega
      subst hj
      cases hv
      simpa [jv_c1] using jv_c1n ok) hl1) hc hs
theorem j_astore_7 {g : jv_G} {X : jv_X} {I : jv_I} {pc n : Nat} {st : List Value} {sh : Nat → jv_S} {V : Nat → Nat → Int32} {L : Nat → Nat → Int64} {k z : Nat} {v0 v1 v2 v3 v4 v5 v6 : Option Value} {rest : List (Option Value)} {w : Option Value} {x : Nat} (ok : jv_c1 v6 = true) (hn : 7 < jn I) (d : decode (jb I) pc = .ok (.astore 7, 2)) (kk : jv_J g X I (pc + 2) (v0 :: v1 :: v2 :: v3 :: v4 :: v5 :: v6 :: some (jv_r g x) :: rest) (st) n sh V L k z) : jv_J g X I (pc) (v0 :: v1 :: v2 :: v3 :: v4 :: v5 :: v6 :: w :: rest) (jv_r g x :: st) n sh V L k z := by
  obtain ⟨p, l, e, R, s, m, args, below, meth, c, Q⟩ := X
  intro hC lsA H locs cells slots hP hS hl hc hs
  refine lv_astore hC.1 hC.2.1 d hl hn rfl (fun ls1 hl1 => ?_)
  exact kk hC ls1 H locs cells slots hP hS (jv_st1 (ls := v0 :: v1 :: v2 :: v3 :: v4 :: v5 :: v6 :: w :: rest) (v := .ref (g.1 + x)) (i := 7) (fun j v hj hv => by
      have hj : j = 6 := by omega
      subst hj
      cases hv
      simpa [jv_c1] using jv_c1n ok) hl1) hc hs
theorem j_lstore_7 {g : jv_G} {X : jv_X} {I : jv_I} {pc n : Nat} {st : List Value} {sh : Nat → jv_S} {V : Nat → Nat → Int32} {L : Nat → Nat → Int64} {k z : Nat} {v0 v1 v2 v3 v4 v5 v6 : Option Value} {rest : List (Option Value)} {w w2 : Option Value} {x : Int64} (ok : jv_c1 v6 = true) (hn : 8 < jn I) (d : decode (jb I) pc = .ok (.lstore 7, 2)) (kk : jv_J g X I (pc + 2) (v0 :: v1 :: v2 :: v3 :: v4 :: v5 :: v6 :: some (.long x) :: none :: rest) (st) n sh V L k z) : jv_J g X I (pc) (v0 :: v1 :: v2 :: v3 :: v4 :: v5 :: v6 :: w :: w2 :: rest) (.long x :: st) n sh V L k z := by
  obtain ⟨p, l, e, R, s, m, args, below, meth, c, Q⟩ := X
  intro hC lsA H locs cells slots hP hS hl hc hs
  refine lv_lstore hC.1 hC.2.1 d hl hn rfl (fun ls1 hl1 => ?_)
  exact kk hC ls1 H locs cells slots hP hS (jv_st2 (ls := v0 :: v1 :: v2 :: v3 :: v4 :: v5 :: v6 :: w :: w2 :: rest) (v := .long x) (i := 7) (fun j v hj hv => by
      have hj : j = 6 := by omega
      subst hj
      cases hv
      simpa [jv_c1] using jv_c1n ok) hl1) hc hs
theorem j_dstore_7 {g : jv_G} {X : jv_X} {I : jv_I} {pc n : Nat} {st : List Value} {sh : Nat → jv_S} {V : Nat → Nat → Int32} {L : Nat → Nat → Int64} {k z : Nat} {v0 v1 v2 v3 v4 v5 v6 : Option Value} {rest : List (Option Value)} {w w2 : Option Value} {x : UInt64} (ok : jv_c1 v6 = true) (hn : 8 < jn I) (d : decode (jb I) pc = .ok (.dstore 7, 2)) (kk : jv_J g X I (pc + 2) (v0 :: v1 :: v2 :: v3 :: v4 :: v5 :: v6 :: some (.double x) :: none :: rest) (st) n sh V L k z) : jv_J g X I (pc) (v0 :: v1 :: v2 :: v3 :: v4 :: v5 :: v6 :: w :: w2 :: rest) (.double x :: st) n sh V L k z := by
  obtain ⟨p, l, e, R, s, m, args, below, meth, c, Q⟩ := X
  intro hC lsA H locs cells slots hP hS hl hc hs
  refine lv_dstore hC.1 hC.2.1 d hl hn rfl (fun ls1 hl1 => ?_)
  exact kk hC ls1 H locs cells slots hP hS (jv_st2 (ls := v0 :: v1 :: v2 :: v3 :: v4 :: v5 :: v6 :: w :: w2 :: rest) (v := .double x) (i := 7) (fun j v hj hv => by
      have hj : j = 6 := by omega
      subst hj
      cases hv
      simpa [jv_c1] using jv_c1n ok) hl1) hc hs
theorem j_iinc_7 {g : jv_G} {X : jv_X} {I : jv_I} {pc n : Nat} {st : List Value} {sh : Nat → jv_S} {V : Nat → Nat → Int32} {L : Nat → Nat → Int64} {k z : Nat} {v0 v1 v2 v3 v4 v5 v6 : Option Value} {rest : List (Option Value)} {x v : Int32} {q : Int} (ok : jv_c1 v6 = true) (hn : 7 < jn I) (d : decode (jb I) pc = .ok (.iinc 7 q, 3)) (hv : x + Int32.ofInt q = v) (kk : jv_J g X I (pc + 3) (v0 :: v1 :: v2 :: v3 :: v4 :: v5 :: v6 :: some (.int v) :: rest) (st) n sh V L k z) : jv_J g X I (pc) (v0 :: v1 :: v2 :: v3 :: v4 :: v5 :: v6 :: some (.int x) :: rest) (st) n sh V L k z := by
  obtain ⟨p, l, e, R, s, m, args, below, meth, c, Q⟩ := X
  intro hC lsA H locs cells slots hP hS hl hc hs
  obtain ⟨q9, hq9⟩ := List.getElem?_of_mem (jv_lst_mem.mpr (show (v0 :: v1 :: v2 :: v3 :: v4 :: v5 :: v6 :: some (.int x) :: rest)[7]? = some (some (.int x)) from rfl))
  refine lv_iinc (v := v) hC.1 hC.2.1 d hl hq9 hv hn rfl (fun ls1 hl1 => ?_)
  exact kk hC ls1 H locs cells slots hP hS (jv_st1 (ls := v0 :: v1 :: v2 :: v3 :: v4 :: v5 :: v6 :: some (.int x) :: rest) (v := .int v) (i := 7) (fun j v hj hv => by
      have hj : j = 6 := by omega
      subst hj
      cases hv
      simpa [jv_c1] using jv_c1n ok) hl1) hc hs
theorem j_inc1_7 {g : jv_G} {X : jv_X} {I : jv_I} {pc n : Nat} {st : List Value} {sh : Nat → jv_S} {V : Nat → Nat → Int32} {L : Nat → Nat → Int64} {k z : Nat} {v0 v1 v2 v3 v4 v5 v6 : Option Value} {rest : List (Option Value)}  {x : Nat} (ok : jv_c1 v6 = true) (hn : 7 < jn I) (d : decode (jb I) pc = .ok (.iinc 7 1, 3)) (kk : jv_J g X I (pc + 3) (v0 :: v1 :: v2 :: v3 :: v4 :: v5 :: v6 :: some (.int (nI (x + 1))) :: rest) (st) n sh V L k z) : jv_J g X I (pc) (v0 :: v1 :: v2 :: v3 :: v4 :: v5 :: v6 :: some (.int (nI x)) :: rest) (st) n sh V L k z := j_iinc_7 ok hn d (jv_inc x) kk
theorem j_iload_8 {g : jv_G} {X : jv_X} {I : jv_I} {pc n : Nat} {st : List Value} {sh : Nat → jv_S} {V : Nat → Nat → Int32} {L : Nat → Nat → Int64} {k z : Nat} {v0 v1 v2 v3 v4 v5 v6 v7 : Option Value} {rest : List (Option Value)} {x : Int32} (d : decode (jb I) pc = .ok (.iload 8, 2)) (kk : jv_J g X I (pc + 2) (v0 :: v1 :: v2 :: v3 :: v4 :: v5 :: v6 :: v7 :: some (.int x) :: rest) (.int x :: st) n sh V L k z) : jv_J g X I (pc) (v0 :: v1 :: v2 :: v3 :: v4 :: v5 :: v6 :: v7 :: some (.int x) :: rest) (st) n sh V L k z := by
  obtain ⟨p, l, e, R, s, m, args, below, meth, c, Q⟩ := X
  intro hC lsA H locs cells slots hP hS hl hc hs
  exact lv_iload hC.1 hC.2.1 d (jv_ld (v := .int x) hl rfl) (kk hC lsA H locs cells slots hP hS hl hc hs)
theorem j_aload_8 {g : jv_G} {X : jv_X} {I : jv_I} {pc n : Nat} {st : List Value} {sh : Nat → jv_S} {V : Nat → Nat → Int32} {L : Nat → Nat → Int64} {k z : Nat} {v0 v1 v2 v3 v4 v5 v6 v7 : Option Value} {rest : List (Option Value)} {x : Nat} (d : decode (jb I) pc = .ok (.aload 8, 2)) (kk : jv_J g X I (pc + 2) (v0 :: v1 :: v2 :: v3 :: v4 :: v5 :: v6 :: v7 :: some (jv_r g x) :: rest) (jv_r g x :: st) n sh V L k z) : jv_J g X I (pc) (v0 :: v1 :: v2 :: v3 :: v4 :: v5 :: v6 :: v7 :: some (jv_r g x) :: rest) (st) n sh V L k z := by
  obtain ⟨p, l, e, R, s, m, args, below, meth, c, Q⟩ := X
  intro hC lsA H locs cells slots hP hS hl hc hs
  exact lv_aload hC.1 hC.2.1 d (jv_ld (v := jv_r g x) hl rfl) (kk hC lsA H locs cells slots hP hS hl hc hs)
theorem j_lload_8 {g : jv_G} {X : jv_X} {I : jv_I} {pc n : Nat} {st : List Value} {sh : Nat → jv_S} {V : Nat → Nat → Int32} {L : Nat → Nat → Int64} {k z : Nat} {v0 v1 v2 v3 v4 v5 v6 v7 : Option Value} {rest : List (Option Value)} {x : Int64} (d : decode (jb I) pc = .ok (.lload 8, 2)) (kk : jv_J g X I (pc + 2) (v0 :: v1 :: v2 :: v3 :: v4 :: v5 :: v6 :: v7 :: some (.long x) :: rest) (.long x :: st) n sh V L k z) : jv_J g X I (pc) (v0 :: v1 :: v2 :: v3 :: v4 :: v5 :: v6 :: v7 :: some (.long x) :: rest) (st) n sh V L k z := by
  obtain ⟨p, l, e, R, s, m, args, below, meth, c, Q⟩ := X
  intro hC lsA H locs cells slots hP hS hl hc hs
  exact lv_lload hC.1 hC.2.1 d (jv_ld (v := .long x) hl rfl) (kk hC lsA H locs cells slots hP hS hl hc hs)
theorem j_dload_8 {g : jv_G} {X : jv_X} {I : jv_I} {pc n : Nat} {st : List Value} {sh : Nat → jv_S} {V : Nat → Nat → Int32} {L : Nat → Nat → Int64} {k z : Nat} {v0 v1 v2 v3 v4 v5 v6 v7 : Option Value} {rest : List (Option Value)} {x : UInt64} (d : decode (jb I) pc = .ok (.dload 8, 2)) (kk : jv_J g X I (pc + 2) (v0 :: v1 :: v2 :: v3 :: v4 :: v5 :: v6 :: v7 :: some (.double x) :: rest) (.double x :: st) n sh V L k z) : jv_J g X I (pc) (v0 :: v1 :: v2 :: v3 :: v4 :: v5 :: v6 :: v7 :: some (.double x) :: rest) (st) n sh V L k z := by
  obtain ⟨p, l, e, R, s, m, args, below, meth, c, Q⟩ := X
  intro hC lsA H locs cells slots hP hS hl hc hs
  exact lv_dload hC.1 hC.2.1 d (jv_ld (v := .double x) hl rfl) (kk hC lsA H locs cells slots hP hS hl hc hs)
theorem j_istore_8 {g : jv_G} {X : jv_X} {I : jv_I} {pc n : Nat} {st : List Value} {sh : Nat → jv_S} {V : Nat → Nat → Int32} {L : Nat → Nat → Int64} {k z : Nat} {v0 v1 v2 v3 v4 v5 v6 v7 : Option Value} {rest : List (Option Value)} {w : Option Value} {x : Int32} (ok : jv_c1 v7 = true) (hn : 8 < jn I) (d : decode (jb I) pc = .ok (.istore 8, 2)) (kk : jv_J g X I (pc + 2) (v0 :: v1 :: v2 :: v3 :: v4 :: v5 :: v6 :: v7 :: some (.int x) :: rest) (st) n sh V L k z) : jv_J g X I (pc) (v0 :: v1 :: v2 :: v3 :: v4 :: v5 :: v6 :: v7 :: w :: rest) (.int x :: st) n sh V L k z := by
  obtain ⟨p, l, e, R, s, m, args, below, meth, c, Q⟩ := X
  intro hC lsA H locs cells slots hP hS hl hc hs
  refine lv_istore hC.1 hC.2.1 d hl hn rfl (fun ls1 hl1 => ?_)
  exact kk hC ls1 H locs cells slots hP hS (jv_st1 (ls := v0 :: v1 :: v2 :: v3 :: v4 :: v5 :: v6 :: v7 :: w :: rest) (v := .int x) (i := 8) (fun j v hj hv => by
      have hj : j = 7 := by omega
      subst hj
      cases hv
      simpa [jv_c1] using jv_c1n ok) hl1) hc hs
theorem j_astore_8 {g : jv_G} {X : jv_X} {I : jv_I} {pc n : Nat} {st : List Value} {sh : Nat → jv_S} {V : Nat → Nat → Int32} {L : Nat → Nat → Int64} {k z : Nat} {v0 v1 v2 v3 v4 v5 v6 v7 : Option Value} {rest : List (Option Value)} {w : Option Value} {x : Nat} (ok : jv_c1 v7 = true) (hn : 8 < jn I) (d : decode (jb I) pc = .ok (.astore 8, 2)) (kk : jv_J g X I (pc + 2) (v0 :: v1 :: v2 :: v3 :: v4 :: v5 :: v6 :: v7 :: some (jv_r g x) :: rest) (st) n sh V L k z) : jv_J g X I (pc) (v0 :: v1 :: v2 :: v3 :: v4 :: v5 :: v6 :: v7 :: w :: rest) (jv_r g x :: st) n sh V L k z := by
  obtain ⟨p, l, e, R, s, m, args, below, meth, c, Q⟩ := X
  intro hC lsA H locs cells slots hP hS hl hc hs
  refine lv_astore hC.1 hC.2.1 d hl hn rfl (fun ls1 hl1 => ?_)
  exact kk hC ls1 H locs cells slots hP hS (jv_st1 (ls := v0 :: v1 :: v2 :: v3 :: v4 :: v5 :: v6 :: v7 :: w :: rest) (v := .ref (g.1 + x)) (i := 8) (fun j v hj hv => by
      have hj : j = 7 := by omega
      subst hj
      cases hv
      simpa [jv_c1] using jv_c1n ok) hl1) hc hs
theorem j_lstore_8 {g : jv_G} {X : jv_X} {I : jv_I} {pc n : Nat} {st : List Value} {sh : Nat → jv_S} {V : Nat → Nat → Int32} {L : Nat → Nat → Int64} {k z : Nat} {v0 v1 v2 v3 v4 v5 v6 v7 : Option Value} {rest : List (Option Value)} {w w2 : Option Value} {x : Int64} (ok : jv_c1 v7 = true) (hn : 9 < jn I) (d : decode (jb I) pc = .ok (.lstore 8, 2)) (kk : jv_J g X I (pc + 2) (v0 :: v1 :: v2 :: v3 :: v4 :: v5 :: v6 :: v7 :: some (.long x) :: none :: rest) (st) n sh V L k z) : jv_J g X I (pc) (v0 :: v1 :: v2 :: v3 :: v4 :: v5 :: v6 :: v7 :: w :: w2 :: rest) (.long x :: st) n sh V L k z := by
  obtain ⟨p, l, e, R, s, m, args, below, meth, c, Q⟩ := X
  intro hC lsA H locs cells slots hP hS hl hc hs
  refine lv_lstore hC.1 hC.2.1 d hl hn rfl (fun ls1 hl1 => ?_)
  exact kk hC ls1 H locs cells slots hP hS (jv_st2 (ls := v0 :: v1 :: v2 :: v3 :: v4 :: v5 :: v6 :: v7 :: w :: w2 :: rest) (v := .long x) (i := 8) (fun j v hj hv => by
      have hj : j = 7 := by omega
      subst hj
      cases hv
      simpa [jv_c1] using jv_c1n ok) hl1) hc hs
theorem j_dstore_8 {g : jv_G} {X : jv_X} {I : jv_I} {pc n : Nat} {st : List Value} {sh : Nat → jv_S} {V : Nat → Nat → Int32} {L : Nat → Nat → Int64} {k z : Nat} {v0 v1 v2 v3 v4 v5 v6 v7 : Option Value} {rest : List (Option Value)} {w w2 : Option Value} {x : UInt64} (ok : jv_c1 v7 = true) (hn : 9 < jn I) (d : decode (jb I) pc = .ok (.dstore 8, 2)) (kk : jv_J g X I (pc + 2) (v0 :: v1 :: v2 :: v3 :: v4 :: v5 :: v6 :: v7 :: some (.double x) :: none :: rest) (st) n sh V L k z) : jv_J g X I (pc) (v0 :: v1 :: v2 :: v3 :: v4 :: v5 :: v6 :: v7 :: w :: w2 :: rest) (.double x :: st) n sh V L k z := by
  obtain ⟨p, l, e, R, s, m, args, below, meth, c, Q⟩ := X
  intro hC lsA H locs cells slots hP hS hl hc hs
  refine lv_dstore hC.1 hC.2.1 d hl hn rfl (fun ls1 hl1 => ?_)
  exact kk hC ls1 H locs cells slots hP hS (jv_st2 (ls := v0 :: v1 :: v2 :: v3 :: v4 :: v5 :: v6 :: v7 :: w :: w2 :: rest) (v := .double x) (i := 8) (fun j v hj hv => by
      have hj : j = 7 := by omega
      subst hj
      cases hv
      simpa [jv_c1] using jv_c1n ok) hl1) hc hs
theorem j_iinc_8 {g : jv_G} {X : jv_X} {I : jv_I} {pc n : Nat} {st : List Value} {sh : Nat → jv_S} {V : Nat → Nat → Int32} {L : Nat → Nat → Int64} {k z : Nat} {v0 v1 v2 v3 v4 v5 v6 v7 : Option Value} {rest : List (Option Value)} {x v : Int32} {q : Int} (ok : jv_c1 v7 = true) (hn : 8 < jn I) (d : decode (jb I) pc = .ok (.iinc 8 q, 3)) (hv : x + Int32.ofInt q = v) (kk : jv_J g X I (pc + 3) (v0 :: v1 :: v2 :: v3 :: v4 :: v5 :: v6 :: v7 :: some (.int v) :: rest) (st) n sh V L k z) : jv_J g X I (pc) (v0 :: v1 :: v2 :: v3 :: v4 :: v5 :: v6 :: v7 :: some (.int x) :: rest) (st) n sh V L k z := by
  obtain ⟨p, l, e, R, s, m, args, below, meth, c, Q⟩ := X
  intro hC lsA H locs cells slots hP hS hl hc hs
  obtain ⟨q9, hq9⟩ := List.getElem?_of_mem (jv_lst_mem.mpr (show (v0 :: v1 :: v2 :: v3 :: v4 :: v5 :: v6 :: v7 :: some (.int x) :: rest)[8]? = some (some (.int x)) from rfl))
  refine lv_iinc (v := v) hC.1 hC.2.1 d hl hq9 hv hn rfl (fun ls1 hl1 => ?_)
  exact kk hC ls1 H locs cells slots hP hS (jv_st1 (ls := v0 :: v1 :: v2 :: v3 :: v4 :: v5 :: v6 :: v7 :: some (.int x) :: rest) (v := .int v) (i := 8) (fun j v hj hv => by
      have hj : j = 7 := by omega
      subst hj
      cases hv
      simpa [jv_c1] using jv_c1n ok) hl1) hc hs
theorem j_inc1_8 {g : jv_G} {X : jv_X} {I : jv_I} {pc n : Nat} {st : List Value} {sh : Nat → jv_S} {V : Nat → Nat → Int32} {L : Nat → Nat → Int64} {k z : Nat} {v0 v1 v2 v3 v4 v5 v6 v7 : Option Value} {rest : List (Option Value)}  {x : Nat} (ok : jv_c1 v7 = true) (hn : 8 < jn I) (d : decode (jb I) pc = .ok (.iinc 8 1, 3)) (kk : jv_J g X I (pc + 3) (v0 :: v1 :: v2 :: v3 :: v4 :: v5 :: v6 :: v7 :: some (.int (nI (x + 1))) :: rest) (st) n sh V L k z) : jv_J g X I (pc) (v0 :: v1 :: v2 :: v3 :: v4 :: v5 :: v6 :: v7 :: some (.int (nI x)) :: rest) (st) n sh V L k z := j_iinc_8 ok hn d (jv_inc x) kk
theorem j_iload_9 {g : jv_G} {X : jv_X} {I : jv_I} {pc n : Nat} {st : List Value} {sh : Nat → jv_S} {V : Nat → Nat → Int32} {L : Nat → Nat → Int64} {k z : Nat} {v0 v1 v2 v3 v4 v5 v6 v7 v8 : Option Value} {rest : List (Option Value)} {x : Int32} (d : decode (jb I) pc = .ok (.iload 9, 2)) (kk : jv_J g X I (pc + 2) (v0 :: v1 :: v2 :: v3 :: v4 :: v5 :: v6 :: v7 :: v8 :: some (.int x) :: rest) (.int x :: st) n sh V L k z) : jv_J g X I (pc) (v0 :: v1 :: v2 :: v3 :: v4 :: v5 :: v6 :: v7 :: v8 :: some (.int x) :: rest) (st) n sh V L k z := by
  obtain ⟨p, l, e, R, s, m, args, below, meth, c, Q⟩ := X
  intro hC lsA H locs cells slots hP hS hl hc hs
  exact lv_iload hC.1 hC.2.1 d (jv_ld (v := .int x) hl rfl) (kk hC lsA H locs cells slots hP hS hl hc hs)
theorem j_aload_9 {g : jv_G} {X : jv_X} {I : jv_I} {pc n : Nat} {st : List Value} {sh : Nat → jv_S} {V : Nat → Nat → Int32} {L : Nat → Nat → Int64} {k z : Nat} {v0 v1 v2 v3 v4 v5 v6 v7 v8 : Option Value} {rest : List (Option Value)} {x : Nat} (d : decode (jb I) pc = .ok (.aload 9, 2)) (kk : jv_J g X I (pc + 2) (v0 :: v1 :: v2 :: v3 :: v4 :: v5 :: v6 :: v7 :: v8 :: some (jv_r g x) :: rest) (jv_r g x :: st) n sh V L k z) : jv_J g X I (pc) (v0 :: v1 :: v2 :: v3 :: v4 :: v5 :: v6 :: v7 :: v8 :: some (jv_r g x) :: rest) (st) n sh V L k z := by
  obtain ⟨p, l, e, R, s, m, args, below, meth, c, Q⟩ := X
  intro hC lsA H locs cells slots hP hS hl hc hs
  exact lv_aload hC.1 hC.2.1 d (jv_ld (v := jv_r g x) hl rfl) (kk hC lsA H locs cells slots hP hS hl hc hs)
theorem j_lload_9 {g : jv_G} {X : jv_X} {I : jv_I} {pc n : Nat} {st : List Value} {sh : Nat → jv_S} {V : Nat → Nat → Int32} {L : Nat → Nat → Int64} {k z : Nat} {v0 v1 v2 v3 v4 v5 v6 v7 v8 : Option Value} {rest : List (Option Value)} {x : Int64} (d : decode (jb I) pc = .ok (.lload 9, 2)) (kk : jv_J g X I (pc + 2) (v0 :: v1 :: v2 :: v3 :: v4 :: v5 :: v6 :: v7 :: v8 :: some (.long x) :: rest) (.long x :: st) n sh V L k z) : jv_J g X I (pc) (v0 :: v1 :: v2 :: v3 :: v4 :: v5 :: v6 :: v7 :: v8 :: some (.long x) :: rest) (st) n sh V L k z := by
  obtain ⟨p, l, e, R, s, m, args, below, meth, c, Q⟩ := X
  intro hC lsA H locs cells slots hP hS hl hc hs
  exact lv_lload hC.1 hC.2.1 d (jv_ld (v := .long x) hl rfl) (kk hC lsA H locs cells slots hP hS hl hc hs)
theorem j_dload_9 {g : jv_G} {X : jv_X} {I : jv_I} {pc n : Nat} {st : List Value} {sh : Nat → jv_S} {V : Nat → Nat → Int32} {L : Nat → Nat → Int64} {k z : Nat} {v0 v1 v2 v3 v4 v5 v6 v7 v8 : Option Value} {rest : List (Option Value)} {x : UInt64} (d : decode (jb I) pc = .ok (.dload 9, 2)) (kk : jv_J g X I (pc + 2) (v0 :: v1 :: v2 :: v3 :: v4 :: v5 :: v6 :: v7 :: v8 :: some (.double x) :: rest) (.double x :: st) n sh V L k z) : jv_J g X I (pc) (v0 :: v1 :: v2 :: v3 :: v4 :: v5 :: v6 :: v7 :: v8 :: some (.double x) :: rest) (st) n sh V L k z := by
  obtain ⟨p, l, e, R, s, m, args, below, meth, c, Q⟩ := X
  intro hC lsA H locs cells slots hP hS hl hc hs
  exact lv_dload hC.1 hC.2.1 d (jv_ld (v := .double x) hl rfl) (kk hC lsA H locs cells slots hP hS hl hc hs)
theorem j_istore_9 {g : jv_G} {X : jv_X} {I : jv_I} {pc n : Nat} {st : List Value} {sh : Nat → jv_S} {V : Nat → Nat → Int32} {L : Nat → Nat → Int64} {k z : Nat} {v0 v1 v2 v3 v4 v5 v6 v7 v8 : Option Value} {rest : List (Option Value)} {w : Option Value} {x : Int32} (ok : jv_c1 v8 = true) (hn : 9 < jn I) (d : decode (jb I) pc = .ok (.istore 9, 2)) (kk : jv_J g X I (pc + 2) (v0 :: v1 :: v2 :: v3 :: v4 :: v5 :: v6 :: v7 :: v8 :: some (.int x) :: rest) (st) n sh V L k z) : jv_J g X I (pc) (v0 :: v1 :: v2 :: v3 :: v4 :: v5 :: v6 :: v7 :: v8 :: w :: rest) (.int x :: st) n sh V L k z := by
  obtain ⟨p, l, e, R, s, m, args, below, meth, c, Q⟩ := X
  intro hC lsA H locs cells slots hP hS hl hc hs
  refine lv_istore hC.1 hC.2.1 d hl hn rfl (fun ls1 hl1 => ?_)
  exact kk hC ls1 H locs cells slots hP hS (jv_st1 (ls := v0 :: v1 :: v2 :: v3 :: v4 :: v5 :: v6 :: v7 :: v8 :: w :: rest) (v := .int x) (i := 9) (fun j v hj hv => by
      have hj : j = 8 := by omega
      subst hj
      cases hv
      simpa [jv_c1] using jv_c1n ok) hl1) hc hs
theorem j_astore_9 {g : jv_G} {X : jv_X} {I : jv_I} {pc n : Nat} {st : List Value} {sh : Nat → jv_S} {V : Nat → Nat → Int32} {L : Nat → Nat → Int64} {k z : Nat} {v0 v1 v2 v3 v4 v5 v6 v7 v8 : Option Value} {rest : List (Option Value)} {w : Option Value} {x : Nat} (ok : jv_c1 v8 = true) (hn : 9 < jn I) (d : decode (jb I) pc = .ok (.astore 9, 2)) (kk : jv_J g X I (pc + 2) (v0 :: v1 :: v2 :: v3 :: v4 :: v5 :: v6 :: v7 :: v8 :: some (jv_r g x) :: rest) (st) n sh V L k z) : jv_J g X I (pc) (v0 :: v1 :: v2 :: v3 :: v4 :: v5 :: v6 :: v7 :: v8 :: w :: rest) (jv_r g x :: st) n sh V L k z := by
  obtain ⟨p, l, e, R, s, m, args, below, meth, c, Q⟩ := X
  intro hC lsA H locs cells slots hP hS hl hc hs
  refine lv_astore hC.1 hC.2.1 d hl hn rfl (fun ls1 hl1 => ?_)
  exact kk hC ls1 H locs cells slots hP hS (jv_st1 (ls := v0 :: v1 :: v2 :: v3 :: v4 :: v5 :: v6 :: v7 :: v8 :: w :: rest) (v := .ref (g.1 + x)) (i := 9) (fun j v hj hv => by
      have hj : j = 8 := by omega
      subst hj
      cases hv
      simpa [jv_c1] using jv_c1n ok) hl1) hc hs
theorem j_lstore_9 {g : jv_G} {X : jv_X} {I : jv_I} {pc n : Nat} {st : List Value} {sh : Nat → jv_S} {V : Nat → Nat → Int32} {L : Nat → Nat → Int64} {k z : Nat} {v0 v1 v2 v3 v4 v5 v6 v7 v8 : Option Value} {rest : List (Option Value)} {w w2 : Option Value} {x : Int64} (ok : jv_c1 v8 = true) (hn : 10 < jn I) (d : decode (jb I) pc = .ok (.lstore 9, 2)) (kk : jv_J g X I (pc + 2) (v0 :: v1 :: v2 :: v3 :: v4 :: v5 :: v6 :: v7 :: v8 :: some (.long x) :: none :: rest) (st) n sh V L k z) : jv_J g X I (pc) (v0 :: v1 :: v2 :: v3 :: v4 :: v5 :: v6 :: v7 :: v8 :: w :: w2 :: rest) (.long x :: st) n sh V L k z := by
  obtain ⟨p, l, e, R, s, m, args, below, meth, c, Q⟩ := X
  intro hC lsA H locs cells slots hP hS hl hc hs
  refine lv_lstore hC.1 hC.2.1 d hl hn rfl (fun ls1 hl1 => ?_)
  exact kk hC ls1 H locs cells slots hP hS (jv_st2 (ls := v0 :: v1 :: v2 :: v3 :: v4 :: v5 :: v6 :: v7 :: v8 :: w :: w2 :: rest) (v := .long x) (i := 9) (fun j v hj hv => by
      have hj : j = 8 := by omega
      subst hj
      cases hv
      simpa [jv_c1] using jv_c1n ok) hl1) hc hs
theorem j_dstore_9 {g : jv_G} {X : jv_X} {I : jv_I} {pc n : Nat} {st : List Value} {sh : Nat → jv_S} {V : Nat → Nat → Int32} {L : Nat → Nat → Int64} {k z : Nat} {v0 v1 v2 v3 v4 v5 v6 v7 v8 : Option Value} {rest : List (Option Value)} {w w2 : Option Value} {x : UInt64} (ok : jv_c1 v8 = true) (hn : 10 < jn I) (d : decode (jb I) pc = .ok (.dstore 9, 2)) (kk : jv_J g X I (pc + 2) (v0 :: v1 :: v2 :: v3 :: v4 :: v5 :: v6 :: v7 :: v8 :: some (.double x) :: none :: rest) (st) n sh V L k z) : jv_J g X I (pc) (v0 :: v1 :: v2 :: v3 :: v4 :: v5 :: v6 :: v7 :: v8 :: w :: w2 :: rest) (.double x :: st) n sh V L k z := by
  obtain ⟨p, l, e, R, s, m, args, below, meth, c, Q⟩ := X
  intro hC lsA H locs cells slots hP hS hl hc hs
  refine lv_dstore hC.1 hC.2.1 d hl hn rfl (fun ls1 hl1 => ?_)
  exact kk hC ls1 H locs cells slots hP hS (jv_st2 (ls := v0 :: v1 :: v2 :: v3 :: v4 :: v5 :: v6 :: v7 :: v8 :: w :: w2 :: rest) (v := .double x) (i := 9) (fun j v hj hv => by
      have hj : j = 8 := by omega
      subst hj
      cases hv
      simpa [jv_c1] using jv_c1n ok) hl1) hc hs
theorem j_iinc_9 {g : jv_G} {X : jv_X} {I : jv_I} {pc n : Nat} {st : List Value} {sh : Nat → jv_S} {V : Nat → Nat → Int32} {L : Nat → Nat → Int64} {k z : Nat} {v0 v1 v2 v3 v4 v5 v6 v7 v8 : Option Value} {rest : List (Option Value)} {x v : Int32} {q : Int} (ok : jv_c1 v8 = true) (hn : 9 < jn I) (d : decode (jb I) pc = .ok (.iinc 9 q, 3)) (hv : x + Int32.ofInt q = v) (kk : jv_J g X I (pc + 3) (v0 :: v1 :: v2 :: v3 :: v4 :: v5 :: v6 :: v7 :: v8 :: some (.int v) :: rest) (st) n sh V L k z) : jv_J g X I (pc) (v0 :: v1 :: v2 :: v3 :: v4 :: v5 :: v6 :: v7 :: v8 :: some (.int x) :: rest) (st) n sh V L k z := by
  obtain ⟨p, l, e, R, s, m, args, below, meth, c, Q⟩ := X
  intro hC lsA H locs cells slots hP hS hl hc hs
  obtain ⟨q9, hq9⟩ := List.getElem?_of_mem (jv_lst_mem.mpr (show (v0 :: v1 :: v2 :: v3 :: v4 :: v5 :: v6 :: v7 :: v8 :: some (.int x) :: rest)[9]? = some (some (.int x)) from rfl))
  refine lv_iinc (v := v) hC.1 hC.2.1 d hl hq9 hv hn rfl (fun ls1 hl1 => ?_)
  exact kk hC ls1 H locs cells slots hP hS (jv_st1 (ls := v0 :: v1 :: v2 :: v3 :: v4 :: v5 :: v6 :: v7 :: v8 :: some (.int x) :: rest) (v := .int v) (i := 9) (fun j v hj hv => by
      have hj : j = 8 := by omega
      subst hj
      cases hv
      simpa [jv_c1] using jv_c1n ok) hl1) hc hs
theorem j_inc1_9 {g : jv_G} {X : jv_X} {I : jv_I} {pc n : Nat} {st : List Value} {sh : Nat → jv_S} {V : Nat → Nat → Int32} {L : Nat → Nat → Int64} {k z : Nat} {v0 v1 v2 v3 v4 v5 v6 v7 v8 : Option Value} {rest : List (Option Value)}  {x : Nat} (ok : jv_c1 v8 = true) (hn : 9 < jn I) (d : decode (jb I) pc = .ok (.iinc 9 1, 3)) (kk : jv_J g X I (pc + 3) (v0 :: v1 :: v2 :: v3 :: v4 :: v5 :: v6 :: v7 :: v8 :: some (.int (nI (x + 1))) :: rest) (st) n sh V L k z) : jv_J g X I (pc) (v0 :: v1 :: v2 :: v3 :: v4 :: v5 :: v6 :: v7 :: v8 :: some (.int (nI x)) :: rest) (st) n sh V L k z := j_iinc_9 ok hn d (jv_inc x) kk
theorem j_iload_10 {g : jv_G} {X : jv_X} {I : jv_I} {pc n : Nat} {st : List Value} {sh : Nat → jv_S} {V : Nat → Nat → Int32} {L : Nat → Nat → Int64} {k z : Nat} {v0 v1 v2 v3 v4 v5 v6 v7 v8 v9 : Option Value} {rest : List (Option Value)} {x : Int32} (d : decode (jb I) pc = .ok (.iload 10, 2)) (kk : jv_J g X I (pc + 2) (v0 :: v1 :: v2 :: v3 :: v4 :: v5 :: v6 :: v7 :: v8 :: v9 :: some (.int x) :: rest) (.int x :: st) n sh V L k z) : jv_J g X I (pc) (v0 :: v1 :: v2 :: v3 :: v4 :: v5 :: v6 :: v7 :: v8 :: v9 :: some (.int x) :: rest) (st) n sh V L k z := by
  obtain ⟨p, l, e, R, s, m, args, below, meth, c, Q⟩ := X
  intro hC lsA H locs cells slots hP hS hl hc hs
  exact lv_iload hC.1 hC.2.1 d (jv_ld (v := .int x) hl rfl) (kk hC lsA H locs cells slots hP hS hl hc hs)
theorem j_aload_10 {g : jv_G} {X : jv_X} {I : jv_I} {pc n : Nat} {st : List Value} {sh : Nat → jv_S} {V : Nat → Nat → Int32} {L : Nat → Nat → Int64} {k z : Nat} {v0 v1 v2 v3 v4 v5 v6 v7 v8 v9 : Option Value} {rest : List (Option Value)} {x : Nat} (d : decode (jb I) pc = .ok (.aload 10, 2)) (kk : jv_J g X I (pc + 2) (v0 :: v1 :: v2 :: v3 :: v4 :: v5 :: v6 :: v7 :: v8 :: v9 :: some (jv_r g x) :: rest) (jv_r g x :: st) n sh V L k z) : jv_J g X I (pc) (v0 :: v1 :: v2 :: v3 :: v4 :: v5 :: v6 :: v7 :: v8 :: v9 :: some (jv_r g x) :: rest) (st) n sh V L k z := by
  obtain ⟨p, l, e, R, s, m, args, below, meth, c, Q⟩ := X
  intro hC lsA H locs cells slots hP hS hl hc hs
  exact lv_aload hC.1 hC.2.1 d (jv_ld (v := jv_r g x) hl rfl) (kk hC lsA H locs cells slots hP hS hl hc hs)
theorem j_lload_10 {g : jv_G} {X : jv_X} {I : jv_I} {pc n : Nat} {st : List Value} {sh : Nat → jv_S} {V : Nat → Nat → Int32} {L : Nat → Nat → Int64} {k z : Nat} {v0 v1 v2 v3 v4 v5 v6 v7 v8 v9 : Option Value} {rest : List (Option Value)} {x : Int64} (d : decode (jb I) pc = .ok (.lload 10, 2)) (kk : jv_J g X I (pc + 2) (v0 :: v1 :: v2 :: v3 :: v4 :: v5 :: v6 :: v7 :: v8 :: v9 :: some (.long x) :: rest) (.long x :: st) n sh V L k z) : jv_J g X I (pc) (v0 :: v1 :: v2 :: v3 :: v4 :: v5 :: v6 :: v7 :: v8 :: v9 :: some (.long x) :: rest) (st) n sh V L k z := by
  obtain ⟨p, l, e, R, s, m, args, below, meth, c, Q⟩ := X
  intro hC lsA H locs cells slots hP hS hl hc hs
  exact lv_lload hC.1 hC.2.1 d (jv_ld (v := .long x) hl rfl) (kk hC lsA H locs cells slots hP hS hl hc hs)
theorem j_dload_10 {g : jv_G} {X : jv_X} {I : jv_I} {pc n : Nat} {st : List Value} {sh : Nat → jv_S} {V : Nat → Nat → Int32} {L : Nat → Nat → Int64} {k z : Nat} {v0 v1 v2 v3 v4 v5 v6 v7 v8 v9 : Option Value} {rest : List (Option Value)} {x : UInt64} (d : decode (jb I) pc = .ok (.dload 10, 2)) (kk : jv_J g X I (pc + 2) (v0 :: v1 :: v2 :: v3 :: v4 :: v5 :: v6 :: v7 :: v8 :: v9 :: some (.double x) :: rest) (.double x :: st) n sh V L k z) : jv_J g X I (pc) (v0 :: v1 :: v2 :: v3 :: v4 :: v5 :: v6 :: v7 :: v8 :: v9 :: some (.double x) :: rest) (st) n sh V L k z := by
  obtain ⟨p, l, e, R, s, m, args, below, meth, c, Q⟩ := X
  intro hC lsA H locs cells slots hP hS hl hc hs
  exact lv_dload hC.1 hC.2.1 d (jv_ld (v := .double x) hl rfl) (kk hC lsA H locs cells slots hP hS hl hc hs)
theorem j_istore_10 {g : jv_G} {X : jv_X} {I : jv_I} {pc n : Nat} {st : List Value} {sh : Nat → jv_S} {V : Nat → Nat → Int32} {L : Nat → Nat → Int64} {k z : Nat} {v0 v1 v2 v3 v4 v5 v6 v7 v8 v9 : Option Value} {rest : List (Option Value)} {w : Option Value} {x : Int32} (ok : jv_c1 v9 = true) (hn : 10 < jn I) (d : decode (jb I) pc = .ok (.istore 10, 2)) (kk : jv_J g X I (pc + 2) (v0 :: v1 :: v2 :: v3 :: v4 :: v5 :: v6 :: v7 :: v8 :: v9 :: some (.int x) :: rest) (st) n sh V L k z) : jv_J g X I (pc) (v0 :: v1 :: v2 :: v3 :: v4 :: v5 :: v6 :: v7 :: v8 :: v9 :: w :: rest) (.int x :: st) n sh V L k z := by
  obtain ⟨p, l, e, R, s, m, args, below, meth, c, Q⟩ := X
  intro hC lsA H locs cells slots hP hS hl hc hs
  refine lv_istore hC.1 hC.2.1 d hl hn rfl (fun ls1 hl1 => ?_)
  exact kk hC ls1 H locs cells slots hP hS (jv_st1 (ls := v0 :: v1 :: v2 :: v3 :: v4 :: v5 :: v6 :: v7 :: v8 :: v9 :: w :: rest) (v := .int x) (i := 10) (fun j v hj hv => by
      have hj : j = 9 := by omega
      subst hj
      cases hv
      simpa [jv_c1] using jv_c1n ok) hl1) hc hs
theorem j_astore_10 {g : jv_G} {X : jv_X} {I : jv_I} {pc n : Nat} {st : List Value} {sh : Nat → jv_S} {V : Nat → Nat → Int32} {L : Nat → Nat → Int64} {k z : Nat} {v0 v1 v2 v3 v4 v5 v6 v7 v8 v9 : Option Value} {rest : List (Option Value)} {w : Option Value} {x : Nat} (ok : jv_c1 v9 = true) (hn : 10 < jn I) (d : decode (jb I) pc = .ok (.astore 10, 2)) (kk : jv_J g X I (pc + 2) (v0 :: v1 :: v2 :: v3 :: v4 :: v5 :: v6 :: v7 :: v8 :: v9 :: some (jv_r g x) :: rest) (st) n sh V L k z) : jv_J g X I (pc) (v0 :: v1 :: v2 :: v3 :: v4 :: v5 :: v6 :: v7 :: v8 :: v9 :: w :: rest) (jv_r g x :: st) n sh V L k z := by
  obtain ⟨p, l, e, R, s, m, args, below, meth, c, Q⟩ := X
  intro hC lsA H locs cells slots hP hS hl hc hs
  refine lv_astore hC.1 hC.2.1 d hl hn rfl (fun ls1 hl1 => ?_)
  exact kk hC ls1 H locs cells slots hP hS (jv_st1 (ls := v0 :: v1 :: v2 :: v3 :: v4 :: v5 :: v6 :: v7 :: v8 :: v9 :: w :: rest) (v := .ref (g.1 + x)) (i := 10) (fun j v hj hv => by
      have hj : j = 9 := by omega
      subst hj
      cases hv
      simpa [jv_c1] using jv_c1n ok) hl1) hc hs
theorem j_lstore_10 {g : jv_G} {X : jv_X} {I : jv_I} {pc n : Nat} {st : List Value} {sh : Nat → jv_S} {V : Nat → Nat → Int32} {L : Nat → Nat → Int64} {k z : Nat} {v0 v1 v2 v3 v4 v5 v6 v7 v8 v9 : Option Value} {rest : List (Option Value)} {w w2 : Option Value} {x : Int64} (ok : jv_c1 v9 = true) (hn : 11 < jn I) (d : decode (jb I) pc = .ok (.lstore 10, 2)) (kk : jv_J g X I (pc + 2) (v0 :: v1 :: v2 :: v3 :: v4 :: v5 :: v6 :: v7 :: v8 :: v9 :: some (.long x) :: none :: rest) (st) n sh V L k z) : jv_J g X I (pc) (v0 :: v1 :: v2 :: v3 :: v4 :: v5 :: v6 :: v7 :: v8 :: v9 :: w :: w2 :: rest) (.long x :: st) n sh V L k z := by
  obtain ⟨p, l, e, R, s, m, args, below, meth, c, Q⟩ := X
  intro hC lsA H locs cells slots hP hS hl hc hs
  refine lv_lstore hC.1 hC.2.1 d hl hn rfl (fun ls1 hl1 => ?_)
  exact kk hC ls1 H locs cells slots hP hS (jv_st2 (ls := v0 :: v1 :: v2 :: v3 :: v4 :: v5 :: v6 :: v7 :: v8 :: v9 :: w :: w2 :: rest) (v := .long x) (i := 10) (fun j v hj hv => by
      have hj : j = 9 := by omega
      subst hj
      cases hv
      simpa [jv_c1] using jv_c1n ok) hl1) hc hs
theorem j_dstore_10 {g : jv_G} {X : jv_X} {I : jv_I} {pc n : Nat} {st : List Value} {sh : Nat → jv_S} {V : Nat → Nat → Int32} {L : Nat → Nat → Int64} {k z : Nat} {v0 v1 v2 v3 v4 v5 v6 v7 v8 v9 : Option Value} {rest : List (Option Value)} {w w2 : Option Value} {x : UInt64} (ok : jv_c1 v9 = true) (hn : 11 < jn I) (d : decode (jb I) pc = .ok (.dstore 10, 2)) (kk : jv_J g X I (pc + 2) (v0 :: v1 :: v2 :: v3 :: v4 :: v5 :: v6 :: v7 :: v8 :: v9 :: some (.double x) :: none :: rest) (st) n sh V L k z) : jv_J g X I (pc) (v0 :: v1 :: v2 :: v3 :: v4 :: v5 :: v6 :: v7 :: v8 :: v9 :: w :: w2 :: rest) (.double x :: st) n sh V L k z := by
  obtain ⟨p, l, e, R, s, m, args, below, meth, c, Q⟩ := X
  intro hC lsA H locs cells slots hP hS hl hc hs
  refine lv_dstore hC.1 hC.2.1 d hl hn rfl (fun ls1 hl1 => ?_)
  exact kk hC ls1 H locs cells slots hP hS (jv_st2 (ls := v0 :: v1 :: v2 :: v3 :: v4 :: v5 :: v6 :: v7 :: v8 :: v9 :: w :: w2 :: rest) (v := .double x) (i := 10) (fun j v hj hv => by
      have hj : j = 9 := by omega
      subst hj
      cases hv
      simpa [jv_c1] using jv_c1n ok) hl1) hc hs
theorem j_iinc_10 {g : jv_G} {X : jv_X} {I : jv_I} {pc n : Nat} {st : List Value} {sh : Nat → jv_S} {V : Nat → Nat → Int32} {L : Nat → Nat → Int64} {k z : Nat} {v0 v1 v2 v3 v4 v5 v6 v7 v8 v9 : Option Value} {rest : List (Option Value)} {x v : Int32} {q : Int} (ok : jv_c1 v9 = true) (hn : 10 < jn I) (d : decode (jb I) pc = .ok (.iinc 10 q, 3)) (hv : x + Int32.ofInt q = v) (kk : jv_J g X I (pc + 3) (v0 :: v1 :: v2 :: v3 :: v4 :: v5 :: v6 :: v7 :: v8 :: v9 :: some (.int v) :: rest) (st) n sh V L k z) : jv_J g X I (pc) (v0 :: v1 :: v2 :: v3 :: v4 :: v5 :: v6 :: v7 :: v8 :: v9 :: some (.int x) :: rest) (st) n sh V L k z := by
  obtain ⟨p, l, e, R, s, m, args, below, meth, c, Q⟩ := X
  intro hC lsA H locs cells slots hP hS hl hc hs
  obtain ⟨q9, hq9⟩ := List.getElem?_of_mem (jv_lst_mem.mpr (show (v0 :: v1 :: v2 :: v3 :: v4 :: v5 :: v6 :: v7 :: v8 :: v9 :: some (.int x) :: rest)[10]? = some (some (.int x)) from rfl))
  refine lv_iinc (v := v) hC.1 hC.2.1 d hl hq9 hv hn rfl (fun ls1 hl1 => ?_)
  exact kk hC ls1 H locs cells slots hP hS (jv_st1 (ls := v0 :: v1 :: v2 :: v3 :: v4 :: v5 :: v6 :: v7 :: v8 :: v9 :: some (.int x) :: rest) (v := .int v) (i := 10) (fun j v hj hv => by
      have hj : j = 9 := by omega
      subst hj
      cases hv
      simpa [jv_c1] using jv_c1n ok) hl1) hc hs
theorem j_inc1_10 {g : jv_G} {X : jv_X} {I : jv_I} {pc n : Nat} {st : List Value} {sh : Nat → jv_S} {V : Nat → Nat → Int32} {L : Nat → Nat → Int64} {k z : Nat} {v0 v1 v2 v3 v4 v5 v6 v7 v8 v9 : Option Value} {rest : List (Option Value)}  {x : Nat} (ok : jv_c1 v9 = true) (hn : 10 < jn I) (d : decode (jb I) pc = .ok (.iinc 10 1, 3)) (kk : jv_J g X I (pc + 3) (v0 :: v1 :: v2 :: v3 :: v4 :: v5 :: v6 :: v7 :: v8 :: v9 :: some (.int (nI (x + 1))) :: rest) (st) n sh V L k z) : jv_J g X I (pc) (v0 :: v1 :: v2 :: v3 :: v4 :: v5 :: v6 :: v7 :: v8 :: v9 :: some (.int (nI x)) :: rest) (st) n sh V L k z := j_iinc_10 ok hn d (jv_inc x) kk
theorem j_iload_11 {g : jv_G} {X : jv_X} {I : jv_I} {pc n : Nat} {st : List Value} {sh : Nat → jv_S} {V : Nat → Nat → Int32} {L : Nat → Nat → Int64} {k z : Nat} {v0 v1 v2 v3 v4 v5 v6 v7 v8 v9 v10 : Option Value} {rest : List (Option Value)} {x : Int32} (d : decode (jb I) pc = .ok (.iload 11, 2)) (kk : jv_J g X I (pc + 2) (v0 :: v1 :: v2 :: v3 :: v4 :: v5 :: v6 :: v7 :: v8 :: v9 :: v10 :: some (.int x) :: rest) (.int x :: st) n sh V L k z) : jv_J g X I (pc) (v0 :: v1 :: v2 :: v3 :: v4 :: v5 :: v6 :: v7 :: v8 :: v9 :: v10 :: some (.int x) :: rest) (st) n sh V L k z := by
  obtain ⟨p, l, e, R, s, m, args, below, meth, c, Q⟩ := X
  intro hC lsA H locs cells slots hP hS hl hc hs
  exact lv_iload hC.1 hC.2.1 d (jv_ld (v := .int x) hl rfl) (kk hC lsA H locs cells slots hP hS hl hc hs)
theorem j_aload_11 {g : jv_G} {X : jv_X} {I : jv_I} {pc n : Nat} {st : List Value} {sh : Nat → jv_S} {V : Nat → Nat → Int32} {L : Nat → Nat → Int64} {k z : Nat} {v0 v1 v2 v3 v4 v5 v6 v7 v8 v9 v10 : Option Value} {rest : List (Option Value)} {x : Nat} (d : decode (jb I) pc = .ok (.aload 11, 2)) (kk : jv_J g X I (pc + 2) (v0 :: v1 :: v2 :: v3 :: v4 :: v5 :: v6 :: v7 :: v8 :: v9 :: v10 :: some (jv_r g x) :: rest) (jv_r g x :: st) n sh V L k z) : jv_J g X I (pc) (v0 :: v1 :: v2 :: v3 :: v4 :: v5 :: v6 :: v7 :: v8 :: v9 :: v10 :: some (jv_r g x) :: rest) (st) n sh V L k z := by
  obtain ⟨p, l, e, R, s, m, args, below, meth, c, Q⟩ := X
  intro hC lsA H locs cells slots hP hS hl hc hs
  exact lv_aload hC.1 hC.2.1 d (jv_ld (v := jv_r g x) hl rfl) (kk hC lsA H locs cells slots hP hS hl hc hs)
theorem j_lload_11 {g : jv_G} {X : jv_X} {I : jv_I} {pc n : Nat} {st : List Value} {sh : Nat → jv_S} {V : Nat → Nat → Int32} {L : Nat → Nat → Int64} {k z : Nat} {v0 v1 v2 v3 v4 v5 v6 v7 v8 v9 v10 : Option Value} {rest : List (Option Value)} {x : Int64} (d : decode (jb I) pc = .ok (.lload 11, 2)) (kk : jv_J g X I (pc + 2) (v0 :: v1 :: v2 :: v3 :: v4 :: v5 :: v6 :: v7 :: v8 :: v9 :: v10 :: some (.long x) :: rest) (.long x :: st) n sh V L k z) : jv_J g X I (pc) (v0 :: v1 :: v2 :: v3 :: v4 :: v5 :: v6 :: v7 :: v8 :: v9 :: v10 :: some (.long x) :: rest) (st) n sh V L k z := by
  obtain ⟨p, l, e, R, s, m, args, below, meth, c, Q⟩ := X
  intro hC lsA H locs cells slots hP hS hl hc hs
  exact lv_lload hC.1 hC.2.1 d (jv_ld (v := .long x) hl rfl) (kk hC lsA H locs cells slots hP hS hl hc hs)
theorem j_dload_11 {g : jv_G} {X : jv_X} {I : jv_I} {pc n : Nat} {st : List Value} {sh : Nat → jv_S} {V : Nat → Nat → Int32} {L : Nat → Nat → Int64} {k z : Nat} {v0 v1 v2 v3 v4 v5 v6 v7 v8 v9 v10 : Option Value} {rest : List (Option Value)} {x : UInt64} (d : decode (jb I) pc = .ok (.dload 11, 2)) (kk : jv_J g X I (pc + 2) (v0 :: v1 :: v2 :: v3 :: v4 :: v5 :: v6 :: v7 :: v8 :: v9 :: v10 :: some (.double x) :: rest) (.double x :: st) n sh V L k z) : jv_J g X I (pc) (v0 :: v1 :: v2 :: v3 :: v4 :: v5 :: v6 :: v7 :: v8 :: v9 :: v10 :: some (.double x) :: rest) (st) n sh V L k z := by
  obtain ⟨p, l, e, R, s, m, args, below, meth, c, Q⟩ := X
  intro hC lsA H locs cells slots hP hS hl hc hs
  exact lv_dload hC.1 hC.2.1 d (jv_ld (v := .double x) hl rfl) (kk hC lsA H locs cells slots hP hS hl hc hs)
theorem j_istore_11 {g : jv_G} {X : jv_X} {I : jv_I} {pc n : Nat} {st : List Value} {sh : Nat → jv_S} {V : Nat → Nat → Int32} {L : Nat → Nat → Int64} {k z : Nat} {v0 v1 v2 v3 v4 v5 v6 v7 v8 v9 v10 : Option Value} {rest : List (Option Value)} {w : Option Value} {x : Int32} (ok : jv_c1 v10 = true) (hn : 11 < jn I) (d : decode (jb I) pc = .ok (.istore 11, 2)) (kk : jv_J g X I (pc + 2) (v0 :: v1 :: v2 :: v3 :: v4 :: v5 :: v6 :: v7 :: v8 :: v9 :: v10 :: some (.int x) :: rest) (st) n sh V L k z) : jv_J g X I (pc) (v0 :: v1 :: v2 :: v3 :: v4 :: v5 :: v6 :: v7 :: v8 :: v9 :: v10 :: w :: rest) (.int x :: st) n sh V L k z := by
  obtain ⟨p, l, e, R, s, m, args, below, meth, c, Q⟩ := X
  intro hC lsA H locs cells slots hP hS hl hc hs
  refine lv_istore hC.1 hC.2.1 d hl hn rfl (fun ls1 hl1 => ?_)
  exact kk hC ls1 H locs cells slots hP hS (jv_st1 (ls := v0 :: v1 :: v2 :: v3 :: v4 :: v5 :: v6 :: v7 :: v8 :: v9 :: v10 :: w :: rest) (v := .int x) (i := 11) (fun j v hj hv => by
      have hj : j = 10 := by omega
      subst hj
      cases hv
      simpa [jv_c1] using jv_c1n ok) hl1) hc hs
theorem j_astore_11 {g : jv_G} {X : jv_X} {I : jv_I} {pc n : Nat} {st : List Value} {sh : Nat → jv_S} {V : Nat → Nat → Int32} {L : Nat → Nat → Int64} {k z : Nat} {v0 v1 v2 v3 v4 v5 v6 v7 v8 v9 v10 : Option Value} {rest : List (Option Value)} {w : Option Value} {x : Nat} (ok : jv_c1 v10 = true) (hn : 11 < jn I) (d : decode (jb I) pc = .ok (.astore 11, 2)) (kk : jv_J g X I (pc + 2) (v0 :: v1 :: v2 :: v3 :: v4 :: v5 :: v6 :: v7 :: v8 :: v9 :: v10 :: some (jv_r g x) :: rest) (st) n sh V L k z) : jv_J g X I (pc) (v0 :: v1 :: v2 :: v3 :: v4 :: v5 :: v6 :: v7 :: v8 :: v9 :: v10 :: w :: rest) (jv_r g x :: st) n sh V L k z := by
  obtain ⟨p, l, e, R, s, m, args, below, meth, c, Q⟩ := X
  intro hC lsA H locs cells slots hP hS hl hc hs
  refine lv_astore hC.1 hC.2.1 d hl hn rfl (fun ls1 hl1 => ?_)
  exact kk hC ls1 H locs cells slots hP hS (jv_st1 (ls := v0 :: v1 :: v2 :: v3 :: v4 :: v5 :: v6 :: v7 :: v8 :: v9 :: v10 :: w :: rest) (v := .ref (g.1 + x)) (i := 11) (fun j v hj hv => by
      have hj : j = 10 := by omega
      subst hj
      cases hv
      simpa [jv_c1] using jv_c1n ok) hl1) hc hs
theorem j_lstore_11 {g : jv_G} {X : jv_X} {I : jv_I} {pc n : Nat} {st : List Value} {sh : Nat → jv_S} {V : Nat → Nat → Int32} {L : Nat → Nat → Int64} {k z : Nat} {v0 v1 v2 v3 v4 v5 v6 v7 v8 v9 v10 : Option Value} {rest : List (Option Value)} {w w2 : Option Value} {x : Int64} (ok : jv_c1 v10 = true) (hn : 12 < jn I) (d : decode (jb I) pc = .ok (.lstore 11, 2)) (kk : jv_J g X I (pc + 2) (v0 :: v1 :: v2 :: v3 :: v4 :: v5 :: v6 :: v7 :: v8 :: v9 :: v10 :: some (.long x) :: none :: rest) (st) n sh V L k z) : jv_J g X I (pc) (v0 :: v1 :: v2 :: v3 :: v4 :: v5 :: v6 :: v7 :: v8 :: v9 :: v10 :: w :: w2 :: rest) (.long x :: st) n sh V L k z := by
  obtain ⟨p, l, e, R, s, m, args, below, meth, c, Q⟩ := X
  intro hC lsA H locs cells slots hP hS hl hc hs
  refine lv_lstore hC.1 hC.2.1 d hl hn rfl (fun ls1 hl1 => ?_)
  exact kk hC ls1 H locs cells slots hP hS (jv_st2 (ls := v0 :: v1 :: v2 :: v3 :: v4 :: v5 :: v6 :: v7 :: v8 :: v9 :: v10 :: w :: w2 :: rest) (v := .long x) (i := 11) (fun j v hj hv => by
      have hj : j = 10 := by omega
      subst hj
      cases hv
      simpa [jv_c1] using jv_c1n ok) hl1) hc hs
theorem j_dstore_11 {g : jv_G} {X : jv_X} {I : jv_I} {pc n : Nat} {st : List Value} {sh : Nat → jv_S} {V : Nat → Nat → Int32} {L : Nat → Nat → Int64} {k z : Nat} {v0 v1 v2 v3 v4 v5 v6 v7 v8 v9 v10 : Option Value} {rest : List (Option Value)} {w w2 : Option Value} {x : UInt64} (ok : jv_c1 v10 = true) (hn : 12 < jn I) (d : decode (jb I) pc = .ok (.dstore 11, 2)) (kk : jv_J g X I (pc + 2) (v0 :: v1 :: v2 :: v3 :: v4 :: v5 :: v6 :: v7 :: v8 :: v9 :: v10 :: some (.double x) :: none :: rest) (st) n sh V L k z) : jv_J g X I (pc) (v0 :: v1 :: v2 :: v3 :: v4 :: v5 :: v6 :: v7 :: v8 :: v9 :: v10 :: w :: w2 :: rest) (.double x :: st) n sh V L k z := by
  obtain ⟨p, l, e, R, s, m, args, below, meth, c, Q⟩ := X
  intro hC lsA H locs cells slots hP hS hl hc hs
  refine lv_dstore hC.1 hC.2.1 d hl hn rfl (fun ls1 hl1 => ?_)
  exact kk hC ls1 H locs cells slots hP hS (jv_st2 (ls := v0 :: v1 :: v2 :: v3 :: v4 :: v5 :: v6 :: v7 :: v8 :: v9 :: v10 :: w :: w2 :: rest) (v := .double x) (i := 11) (fun j v hj hv => by
      have hj : j = 10 := by omega
      subst hj
      cases hv
      simpa [jv_c1] using jv_c1n ok) hl1) hc hs
theorem j_iinc_11 {g : jv_G} {X : jv_X} {I : jv_I} {pc n : Nat} {st : List Value} {sh : Nat → jv_S} {V : Nat → Nat → Int32} {L : Nat → Nat → Int64} {k z : Nat} {v0 v1 v2 v3 v4 v5 v6 v7 v8 v9 v10 : Option Value} {rest : List (Option Value)} {x v : Int32} {q : Int} (ok : jv_c1 v10 = true) (hn : 11 < jn I) (d : decode (jb I) pc = .ok (.iinc 11 q, 3)) (hv : x + Int32.ofInt q = v) (kk : jv_J g X I (pc + 3) (v0 :: v1 :: v2 :: v3 :: v4 :: v5 :: v6 :: v7 :: v8 :: v9 :: v10 :: some (.int v) :: rest) (st) n sh V L k z) : jv_J g X I (pc) (v0 :: v1 :: v2 :: v3 :: v4 :: v5 :: v6 :: v7 :: v8 :: v9 :: v10 :: some (.int x) :: rest) (st) n sh V L k z := by
  obtain ⟨p, l, e, R, s, m, args, below, meth, c, Q⟩ := X
  intro hC lsA H locs cells slots hP hS hl hc hs
  obtain ⟨q9, hq9⟩ := List.getElem?_of_mem (jv_lst_mem.mpr (show (v0 :: v1 :: v2 :: v3 :: v4 :: v5 :: v6 :: v7 :: v8 :: v9 :: v10 :: some (.int x) :: rest)[11]? = some (some (.int x)) from rfl))
  refine lv_iinc (v := v) hC.1 hC.2.1 d hl hq9 hv hn rfl (fun ls1 hl1 => ?_)
  exact kk hC ls1 H locs cells slots hP hS (jv_st1 (ls := v0 :: v1 :: v2 :: v3 :: v4 :: v5 :: v6 :: v7 :: v8 :: v9 :: v10 :: some (.int x) :: rest) (v := .int v) (i := 11) (fun j v hj hv => by
      have hj : j = 10 := by omega
      subst hj
      cases hv
      simpa [jv_c1] using jv_c1n ok) hl1) hc hs
theorem j_inc1_11 {g : jv_G} {X : jv_X} {I : jv_I} {pc n : Nat} {st : List Value} {sh : Nat → jv_S} {V : Nat → Nat → Int32} {L : Nat → Nat → Int64} {k z : Nat} {v0 v1 v2 v3 v4 v5 v6 v7 v8 v9 v10 : Option Value} {rest : List (Option Value)}  {x : Nat} (ok : jv_c1 v10 = true) (hn : 11 < jn I) (d : decode (jb I) pc = .ok (.iinc 11 1, 3)) (kk : jv_J g X I (pc + 3) (v0 :: v1 :: v2 :: v3 :: v4 :: v5 :: v6 :: v7 :: v8 :: v9 :: v10 :: some (.int (nI (x + 1))) :: rest) (st) n sh V L k z) : jv_J g X I (pc) (v0 :: v1 :: v2 :: v3 :: v4 :: v5 :: v6 :: v7 :: v8 :: v9 :: v10 :: some (.int (nI x)) :: rest) (st) n sh V L k z := j_iinc_11 ok hn d (jv_inc x) kk
theorem j_iload_12 {g : jv_G} {X : jv_X} {I : jv_I} {pc n : Nat} {st : List Value} {sh : Nat → jv_S} {V : Nat → Nat → Int32} {L : Nat → Nat → Int64} {k z : Nat} {v0 v1 v2 v3 v4 v5 v6 v7 v8 v9 v10 v11 : Option Value} {rest : List (Option Value)} {x : Int32} (d : decode (jb I) pc = .ok (.iload 12, 2)) (kk : jv_J g X I (pc + 2) (v0 :: v1 :: v2 :: v3 :: v4 :: v5 :: v6 :: v7 :: v8 :: v9 :: v10 :: v11 :: some (.int x) :: rest) (.int x :: st) n sh V L k z) : jv_J g X I (pc) (v0 :: v1 :: v2 :: v3 :: v4 :: v5 :: v6 :: v7 :: v8 :: v9 :: v10 :: v11 :: some (.int x) :: rest) (st) n sh V L k z := by
  obtain ⟨p, l, e, R, s, m, args, below, meth, c, Q⟩ := X
  intro hC lsA H locs cells slots hP hS hl hc hs
  exact lv_iload hC.1 hC.2.1 d (jv_ld (v := .int x) hl rfl) (kk hC lsA H locs cells slots hP hS hl hc hs)
theorem j_aload_12 {g : jv_G} {X : jv_X} {I : jv_I} {pc n : Nat} {st : List Value} {sh : Nat → jv_S} {V : Nat → Nat → Int32} {L : Nat → Nat → Int64} {k z : Nat} {v0 v1 v2 v3 v4 v5 v6 v7 v8 v9 v10 v11 : Option Value} {rest : List (Option Value)} {x : Nat} (d : decode (jb I) pc = .ok (.aload 12, 2)) (kk : jv_J g X I (pc + 2) (v0 :: v1 :: v2 :: v3 :: v4 :: v5 :: v6 :: v7 :: v8 :: v9 :: v10 :: v11 :: some (jv_r g x) :: rest) (jv_r g x :: st) n sh V L k z) : jv_J g X I (pc) (v0 :: v1 :: v2 :: v3 :: v4 :: v5 :: v6 :: v7 :: v8 :: v9 :: v10 :: v11 :: some (jv_r g x) :: rest) (st) n sh V L k z := by
  obtain ⟨p, l, e, R, s, m, args, below, meth, c, Q⟩ := X
  intro hC lsA H locs cells slots hP hS hl hc hs
  exact lv_aload hC.1 hC.2.1 d (jv_ld (v := jv_r g x) hl rfl) (kk hC lsA H locs cells slots hP hS hl hc hs)
theorem j_lload_12 {g : jv_G} {X : jv_X} {I : jv_I} {pc n : Nat} {st : List Value} {sh : Nat → jv_S} {V : Nat → Nat → Int32} {L : Nat → Nat → Int64} {k z : Nat} {v0 v1 v2 v3 v4 v5 v6 v7 v8 v9 v10 v11 : Option Value} {rest : List (Option Value)} {x : Int64} (d : decode (jb I) pc = .ok (.lload 12, 2)) (kk : jv_J g X I (pc + 2) (v0 :: v1 :: v2 :: v3 :: v4 :: v5 :: v6 :: v7 :: v8 :: v9 :: v10 :: v11 :: some (.long x) :: rest) (.long x :: st) n sh V L k z) : jv_J g X I (pc) (v0 :: v1 :: v2 :: v3 :: v4 :: v5 :: v6 :: v7 :: v8 :: v9 :: v10 :: v11 :: some (.long x) :: rest) (st) n sh V L k z := by
  obtain ⟨p, l, e, R, s, m, args, below, meth, c, Q⟩ := X
  intro hC lsA H locs cells slots hP hS hl hc hs
  exact lv_lload hC.1 hC.2.1 d (jv_ld (v := .long x) hl rfl) (kk hC lsA H locs cells slots hP hS hl hc hs)
theorem j_dload_12 {g : jv_G} {X : jv_X} {I : jv_I} {pc n : Nat} {st : List Value} {sh : Nat → jv_S} {V : Nat → Nat → Int32} {L : Nat → Nat → Int64} {k z : Nat} {v0 v1 v2 v3 v4 v5 v6 v7 v8 v9 v10 v11 : Option Value} {rest : List (Option Value)} {x : UInt64} (d : decode (jb I) pc = .ok (.dload 12, 2)) (kk : jv_J g X I (pc + 2) (v0 :: v1 :: v2 :: v3 :: v4 :: v5 :: v6 :: v7 :: v8 :: v9 :: v10 :: v11 :: some (.double x) :: rest) (.double x :: st) n sh V L k z) : jv_J g X I (pc) (v0 :: v1 :: v2 :: v3 :: v4 :: v5 :: v6 :: v7 :: v8 :: v9 :: v10 :: v11 :: some (.double x) :: rest) (st) n sh V L k z := by
  obtain ⟨p, l, e, R, s, m, args, below, meth, c, Q⟩ := X
  intro hC lsA H locs cells slots hP hS hl hc hs
  exact lv_dload hC.1 hC.2.1 d (jv_ld (v := .double x) hl rfl) (kk hC lsA H locs cells slots hP hS hl hc hs)
theorem j_istore_12 {g : jv_G} {X : jv_X} {I : jv_I} {pc n : Nat} {st : List Value} {sh : Nat → jv_S} {V : Nat → Nat → Int32} {L : Nat → Nat → Int64} {k z : Nat} {v0 v1 v2 v3 v4 v5 v6 v7 v8 v9 v10 v11 : Option Value} {rest : List (Option Value)} {w : Option Value} {x : Int32} (ok : jv_c1 v11 = true) (hn : 12 < jn I) (d : decode (jb I) pc = .ok (.istore 12, 2)) (kk : jv_J g X I (pc + 2) (v0 :: v1 :: v2 :: v3 :: v4 :: v5 :: v6 :: v7 :: v8 :: v9 :: v10 :: v11 :: some (.int x) :: rest) (st) n sh V L k z) : jv_J g X I (pc) (v0 :: v1 :: v2 :: v3 :: v4 :: v5 :: v6 :: v7 :: v8 :: v9 :: v10 :: v11 :: w :: rest) (.int x :: st) n sh V L k z := by
  obtain ⟨p, l, e, R, s, m, args, below, meth, c, Q⟩ := X
  intro hC lsA H locs cells slots hP hS hl hc hs
  refine lv_istore hC.1 hC.2.1 d hl hn rfl (fun ls1 hl1 => ?_)
  exact kk hC ls1 H locs cells slots hP hS (jv_st1 (ls := v0 :: v1 :: v2 :: v3 :: v4 :: v5 :: v6 :: v7 :: v8 :: v9 :: v10 :: v11 :: w :: rest) (v := .int x) (i := 12) (fun j v hj hv => by
      have hj : j = 11 := by omega
      subst hj
      cases hv
      simpa [jv_c1] using jv_c1n ok) hl1) hc hs
theorem j_astore_12 {g : jv_G} {X : jv_X} {I : jv_I} {pc n : Nat} {st : List Value} {sh : Nat → jv_S} {V : Nat → Nat → Int32} {L : Nat → Nat → Int64} {k z : Nat} {v0 v1 v2 v3 v4 v5 v6 v7 v8 v9 v10 v11 : Option Value} {rest : List (Option Value)} {w : Option Value} {x : Nat} (ok : jv_c1 v11 = true) (hn : 12 < jn I) (d : decode (jb I) pc = .ok (.astore 12, 2)) (kk : jv_J g X I (pc + 2) (v0 :: v1 :: v2 :: v3 :: v4 :: v5 :: v6 :: v7 :: v8 :: v9 :: v10 :: v11 :: some (jv_r g x) :: rest) (st) n sh V L k z) : jv_J g X I (pc) (v0 :: v1 :: v2 :: v3 :: v4 :: v5 :: v6 :: v7 :: v8 :: v9 :: v10 :: v11 :: w :: rest) (jv_r g x :: st) n sh V L k z := by
  obtain ⟨p, l, e, R, s, m, args, below, meth, c, Q⟩ := X
  intro hC lsA H locs cells slots hP hS hl hc hs
  refine lv_astore hC.1 hC.2.1 d hl hn rfl (fun ls1 hl1 => ?_)
  exact kk hC ls1 H locs cells slots hP hS (jv_st1 (ls := v0 :: v1 :: v2 :: v3 :: v4 :: v5 :: v6 :: v7 :: v8 :: v9 :: v10 :: v11 :: w :: rest) (v := .ref (g.1 + x)) (i := 12) (fun j v hj hv => by
      have hj : j = 11 := by omega
      subst hj
      cases hv
      simpa [jv_c1] using jv_c1n ok) hl1) hc hs
theorem j_lstore_12 {g : jv_G} {X : jv_X} {I : jv_I} {pc n : Nat} {st : List Value} {sh : Nat → jv_S} {V : Nat → Nat → Int32} {L : Nat → Nat → Int64} {k z : Nat} {v0 v1 v2 v3 v4 v5 v6 v7 v8 v9 v10 v11 : Option Value} {rest : List (Option Value)} {w w2 : Option Value} {x : Int64} (ok : jv_c1 v11 = true) (hn : 13 < jn I) (d : decode (jb I) pc = .ok (.lstore 12, 2)) (kk : jv_J g X I (pc + 2) (v0 :: v1 :: v2 :: v3 :: v4 :: v5 :: v6 :: v7 :: v8 :: v9 :: v10 :: v11 :: some (.long x) :: none :: rest) (st) n sh V L k z) : jv_J g X I (pc) (v0 :: v1 :: v2 :: v3 :: v4 :: v5 :: v6 :: v7 :: v8 :: v9 :: v10 :: v11 :: w :: w2 :: rest) (.long x :: st) n sh V L k z := by
  obtain ⟨p, l, e, R, s, m, args, below, meth, c, Q⟩ := X
  intro hC lsA H locs cells slots hP hS hl hc hs
  refine lv_lstore hC.1 hC.2.1 d hl hn rfl (fun ls1 hl1 => ?_)
  exact kk hC ls1 H locs cells slots hP hS (jv_st2 (ls := v0 :: v1 :: v2 :: v3 :: v4 :: v5 :: v6 :: v7 :: v8 :: v9 :: v10 :: v11 :: w :: w2 :: rest) (v := .long x) (i := 12) (fun j v hj hv => by
      have hj : j = 11 := by omega
      subst hj
      cases hv
      simpa [jv_c1] using jv_c1n ok) hl1) hc hs
theorem j_dstore_12 {g : jv_G} {X : jv_X} {I : jv_I} {pc n : Nat} {st : List Value} {sh : Nat → jv_S} {V : Nat → Nat → Int32} {L : Nat → Nat → Int64} {k z : Nat} {v0 v1 v2 v3 v4 v5 v6 v7 v8 v9 v10 v11 : Option Value} {rest : List (Option Value)} {w w2 : Option Value} {x : UInt64} (ok : jv_c1 v11 = true) (hn : 13 < jn I) (d : decode (jb I) pc = .ok (.dstore 12, 2)) (kk : jv_J g X I (pc + 2) (v0 :: v1 :: v2 :: v3 :: v4 :: v5 :: v6 :: v7 :: v8 :: v9 :: v10 :: v11 :: some (.double x) :: none :: rest) (st) n sh V L k z) : jv_J g X I (pc) (v0 :: v1 :: v2 :: v3 :: v4 :: v5 :: v6 :: v7 :: v8 :: v9 :: v10 :: v11 :: w :: w2 :: rest) (.double x :: st) n sh V L k z := by
  obtain ⟨p, l, e, R, s, m, args, below, meth, c, Q⟩ := X
  intro hC lsA H locs cells slots hP hS hl hc hs
  refine lv_dstore hC.1 hC.2.1 d hl hn rfl (fun ls1 hl1 => ?_)
  exact kk hC ls1 H locs cells slots hP hS (jv_st2 (ls := v0 :: v1 :: v2 :: v3 :: v4 :: v5 :: v6 :: v7 :: v8 :: v9 :: v10 :: v11 :: w :: w2 :: rest) (v := .double x) (i := 12) (fun j v hj hv => by
      have hj : j = 11 := by omega
      subst hj
      cases hv
      simpa [jv_c1] using jv_c1n ok) hl1) hc hs
theorem j_iinc_12 {g : jv_G} {X : jv_X} {I : jv_I} {pc n : Nat} {st : List Value} {sh : Nat → jv_S} {V : Nat → Nat → Int32} {L : Nat → Nat → Int64} {k z : Nat} {v0 v1 v2 v3 v4 v5 v6 v7 v8 v9 v10 v11 : Option Value} {rest : List (Option Value)} {x v : Int32} {q : Int} (ok : jv_c1 v11 = true) (hn : 12 < jn I) (d : decode (jb I) pc = .ok (.iinc 12 q, 3)) (hv : x + Int32.ofInt q = v) (kk : jv_J g X I (pc + 3) (v0 :: v1 :: v2 :: v3 :: v4 :: v5 :: v6 :: v7 :: v8 :: v9 :: v10 :: v11 :: some (.int v) :: rest) (st) n sh V L k z) : jv_J g X I (pc) (v0 :: v1 :: v2 :: v3 :: v4 :: v5 :: v6 :: v7 :: v8 :: v9 :: v10 :: v11 :: some (.int x) :: rest) (st) n sh V L k z := by
  obtain ⟨p, l, e, R, s, m, args, below, meth, c, Q⟩ := X
  intro hC lsA H locs cells slots hP hS hl hc hs
  obtain ⟨q9, hq9⟩ := List.getElem?_of_mem (jv_lst_mem.mpr (show (v0 :: v1 :: v2 :: v3 :: v4 :: v5 :: v6 :: v7 :: v8 :: v9 :: v10 :: v11 :: some (.int x) :: rest)[12]? = some (some (.int x)) from rfl))
  refine lv_iinc (v := v) hC.1 hC.2.1 d hl hq9 hv hn rfl (fun ls1 hl1 => ?_)
  exact kk hC ls1 H locs cells slots hP hS (jv_st1 (ls := v0 :: v1 :: v2 :: v3 :: v4 :: v5 :: v6 :: v7 :: v8 :: v9 :: v10 :: v11 :: some (.int x) :: rest) (v := .int v) (i := 12) (fun j v hj hv => by
      have hj : j = 11 := by omega
      subst hj
      cases hv
      simpa [jv_c1] using jv_c1n ok) hl1) hc hs
theorem j_inc1_12 {g : jv_G} {X : jv_X} {I : jv_I} {pc n : Nat} {st : List Value} {sh : Nat → jv_S} {V : Nat → Nat → Int32} {L : Nat → Nat → Int64} {k z : Nat} {v0 v1 v2 v3 v4 v5 v6 v7 v8 v9 v10 v11 : Option Value} {rest : List (Option Value)}  {x : Nat} (ok : jv_c1 v11 = true) (hn : 12 < jn I) (d : decode (jb I) pc = .ok (.iinc 12 1, 3)) (kk : jv_J g X I (pc + 3) (v0 :: v1 :: v2 :: v3 :: v4 :: v5 :: v6 :: v7 :: v8 :: v9 :: v10 :: v11 :: some (.int (nI (x + 1))) :: rest) (st) n sh V L k z) : jv_J g X I (pc) (v0 :: v1 :: v2 :: v3 :: v4 :: v5 :: v6 :: v7 :: v8 :: v9 :: v10 :: v11 :: some (.int (nI x)) :: rest) (st) n sh V L k z := j_iinc_12 ok hn d (jv_inc x) kk
theorem j_iload_13 {g : jv_G} {X : jv_X} {I : jv_I} {pc n : Nat} {st : List Value} {sh : Nat → jv_S} {V : Nat → Nat → Int32} {L : Nat → Nat → Int64} {k z : Nat} {v0 v1 v2 v3 v4 v5 v6 v7 v8 v9 v10 v11 v12 : Option Value} {rest : List (Option Value)} {x : Int32} (d : decode (jb I) pc = .ok (.iload 13, 2)) (kk : jv_J g X I (pc + 2) (v0 :: v1 :: v2 :: v3 :: v4 :: v5 :: v6 :: v7 :: v8 :: v9 :: v10 :: v11 :: v12 :: some (.int x) :: rest) (.int x :: st) n sh V L k z) : jv_J g X I (pc) (v0 :: v1 :: v2 :: v3 :: v4 :: v5 :: v6 :: v7 :: v8 :: v9 :: v10 :: v11 :: v12 :: some (.int x) :: rest) (st) n sh V L k z := by
  obtain ⟨p, l, e, R, s, m, args, below, meth, c, Q⟩ := X
  intro hC lsA H locs cells slots hP hS hl hc hs
  exact lv_iload hC.1 hC.2.1 d (jv_ld (v := .int x) hl rfl) (kk hC lsA H locs cells slots hP hS hl hc hs)
theorem j_aload_13 {g : jv_G} {X : jv_X} {I : jv_I} {pc n : Nat} {st : List Value} {sh : Nat → jv_S} {V : Nat → Nat → Int32} {L : Nat → Nat → Int64} {k z : Nat} {v0 v1 v2 v3 v4 v5 v6 v7 v8 v9 v10 v11 v12 : Option Value} {rest : List (Option Value)} {x : Nat} (d : decode (jb I) pc = .ok (.aload 13, 2)) (kk : jv_J g X I (pc + 2) (v0 :: v1 :: v2 :: v3 :: v4 :: v5 :: v6 :: v7 :: v8 :: v9 :: v10 :: v11 :: v12 :: some (jv_r g x) :: rest) (jv_r g x :: st) n sh V L k z) : jv_J g X I (pc) (v0 :: v1 :: v2 :: v3 :: v4 :: v5 :: v6 :: v7 :: v8 :: v9 :: v10 :: v11 :: v12 :: some (jv_r g x) :: rest) (st) n sh V L k z := by
  obtain ⟨p, l, e, R, s, m, args, below, meth, c, Q⟩ := X
  intro hC lsA H locs cells slots hP hS hl hc hs
  exact lv_aload hC.1 hC.2.1 d (jv_ld (v := jv_r g x) hl rfl) (kk hC lsA H locs cells slots hP hS hl hc hs)
theorem j_lload_13 {g : jv_G} {X : jv_X} {I : jv_I} {pc n : Nat} {st : List Value} {sh : Nat → jv_S} {V : Nat → Nat → Int32} {L : Nat → Nat → Int64} {k z : Nat} {v0 v1 v2 v3 v4 v5 v6 v7 v8 v9 v10 v11 v12 : Option Value} {rest : List (Option Value)} {x : Int64} (d : decode (jb I) pc = .ok (.lload 13, 2)) (kk : jv_J g X I (pc + 2) (v0 :: v1 :: v2 :: v3 :: v4 :: v5 :: v6 :: v7 :: v8 :: v9 :: v10 :: v11 :: v12 :: some (.long x) :: rest) (.long x :: st) n sh V L k z) : jv_J g X I (pc) (v0 :: v1 :: v2 :: v3 :: v4 :: v5 :: v6 :: v7 :: v8 :: v9 :: v10 :: v11 :: v12 :: some (.long x) :: rest) (st) n sh V L k z := by
  obtain ⟨p, l, e, R, s, m, args, below, meth, c, Q⟩ := X
  intro hC lsA H locs cells slots hP hS hl hc hs
  exact lv_lload hC.1 hC.2.1 d (jv_ld (v := .long x) hl rfl) (kk hC lsA H locs cells slots hP hS hl hc hs)
theorem j_dload_13 {g : jv_G} {X : jv_X} {I : jv_I} {pc n : Nat} {st : List Value} {sh : Nat → jv_S} {V : Nat → Nat → Int32} {L : Nat → Nat → Int64} {k z : Nat} {v0 v1 v2 v3 v4 v5 v6 v7 v8 v9 v10 v11 v12 : Option Value} {rest : List (Option Value)} {x : UInt64} (d : decode (jb I) pc = .ok (.dload 13, 2)) (kk : jv_J g X I (pc + 2) (v0 :: v1 :: v2 :: v3 :: v4 :: v5 :: v6 :: v7 :: v8 :: v9 :: v10 :: v11 :: v12 :: some (.double x) :: rest) (.double x :: st) n sh V L k z) : jv_J g X I (pc) (v0 :: v1 :: v2 :: v3 :: v4 :: v5 :: v6 :: v7 :: v8 :: v9 :: v10 :: v11 :: v12 :: some (.double x) :: rest) (st) n sh V L k z := by
  obtain ⟨p, l, e, R, s, m, args, below, meth, c, Q⟩ := X
  intro hC lsA H locs cells slots hP hS hl hc hs
  exact lv_dload hC.1 hC.2.1 d (jv_ld (v := .double x) hl rfl) (kk hC lsA H locs cells slots hP hS hl hc hs)
theorem j_istore_13 {g : jv_G} {X : jv_X} {I : jv_I} {pc n : Nat} {st : List Value} {sh : Nat → jv_S} {V : Nat → Nat → Int32} {L : Nat → Nat → Int64} {k z : Nat} {v0 v1 v2 v3 v4 v5 v6 v7 v8 v9 v10 v11 v12 : Option Value} {rest : List (Option Value)} {w : Option Value} {x : Int32} (ok : jv_c1 v12 = true) (hn : 13 < jn I) (d : decode (jb I) pc = .ok (.istore 13, 2)) (kk : jv_J g X I (pc + 2) (v0 :: v1 :: v2 :: v3 :: v4 :: v5 :: v6 :: v7 :: v8 :: v9 :: v10 :: v11 :: v12 :: some (.int x) :: rest) (st) n sh V L k z) : jv_J g X I (pc) (v0 :: v1 :: v2 :: v3 :: v4 :: v5 :: v6 :: v7 :: v8 :: v9 :: v10 :: v11 :: v12 :: w :: rest) (.int x :: st) n sh V L k z := by
  obtain ⟨p, l, e, R, s, m, args, below, meth, c, Q⟩ := X
  intro hC lsA H locs cells slots hP hS hl hc hs
  refine lv_istore hC.1 hC.2.1 d hl hn rfl (fun ls1 hl1 => ?_)
  exact kk hC ls1 H locs cells slots hP hS (jv_st1 (ls := v0 :: v1 :: v2 :: v3 :: v4 :: v5 :: v6 :: v7 :: v8 :: v9 :: v10 :: v11 :: v12 :: w :: rest) (v := .int x) (i := 13) (fun j v hj hv => by
      have hj : j = 12 := by omega
      subst hj
      cases hv
      simpa [jv_c1] using jv_c1n ok) hl1) hc hs
theorem j_astore_13 {g : jv_G} {X : jv_X} {I : jv_I} {pc n : Nat} {st : List Value} {sh : Nat → jv_S} {V : Nat → Nat → Int32} {L : Nat → Nat → Int64} {k z : Nat} {v0 v1 v2 v3 v4 v5 v6 v7 v8 v9 v10 v11 v12 : Option Value} {rest : List (Option Value)} {w : Option Value} {x : Nat} (ok : jv_c1 v12 = true) (hn : 13 < jn I) (d : decode (jb I) pc = .ok (.astore 13, 2)) (kk : jv_J g X I (pc + 2) (v0 :: v1 :: v2 :: v3 :: v4 :: v5 :: v6 :: v7 :: v8 :: v9 :: v10 :: v11 :: v12 :: some (jv_r g x) :: rest) (st) n sh V L k z) : jv_J g X I (pc) (v0 :: v1 :: v2 :: v3 :: v4 :: v5 :: v6 :: v7 :: v8 :: v9 :: v10 :: v11 :: v12 :: w :: rest) (jv_r g x :: st) n sh V L k z := by
  obtain ⟨p, l, e, R, s, m, args, below, meth, c, Q⟩ := X
  intro hC lsA H locs cells slots hP hS hl hc hs
  refine lv_astore hC.1 hC.2.1 d hl hn rfl (fun ls1 hl1 => ?_)
  exact kk hC ls1 H locs cells slots hP hS (jv_st1 (ls := v0 :: v1 :: v2 :: v3 :: v4 :: v5 :: v6 :: v7 :: v8 :: v9 :: v10 :: v11 :: v12 :: w :: rest) (v := .ref (g.1 + x)) (i := 13) (fun j v hj hv => by
      have hj : j = 12 := by omega
      subst hj
      cases hv
      simpa [jv_c1] using jv_c1n ok) hl1) hc hs
theorem j_lstore_13 {g : jv_G} {X : jv_X} {I : jv_I} {pc n : Nat} {st : List Value} {sh : Nat → jv_S} {V : Nat → Nat → Int32} {L : Nat → Nat → Int64} {k z : Nat} {v0 v1 v2 v3 v4 v5 v6 v7 v8 v9 v10 v11 v12 : Option Value} {rest : List (Option Value)} {w w2 : Option Value} {x : Int64} (ok : jv_c1 v12 = true) (hn : 14 < jn I) (d : decode (jb I) pc = .ok (.lstore 13, 2)) (kk : jv_J g X I (pc + 2) (v0 :: v1 :: v2 :: v3 :: v4 :: v5 :: v6 :: v7 :: v8 :: v9 :: v10 :: v11 :: v12 :: some (.long x) :: none :: rest) (st) n sh V L k z) : jv_J g X I (pc) (v0 :: v1 :: v2 :: v3 :: v4 :: v5 :: v6 :: v7 :: v8 :: v9 :: v10 :: v11 :: v12 :: w :: w2 :: rest) (.long x :: st) n sh V L k z := by
  obtain ⟨p, l, e, R, s, m, args, below, meth, c, Q⟩ := X
  intro hC lsA H locs cells slots hP hS hl hc hs
  refine lv_lstore hC.1 hC.2.1 d hl hn rfl (fun ls1 hl1 => ?_)
  exact kk hC ls1 H locs cells slots hP hS (jv_st2 (ls := v0 :: v1 :: v2 :: v3 :: v4 :: v5 :: v6 :: v7 :: v8 :: v9 :: v10 :: v11 :: v12 :: w :: w2 :: rest) (v := .long x) (i := 13) (fun j v hj hv => by
      have hj : j = 12 := by omega
      subst hj
      cases hv
      simpa [jv_c1] using jv_c1n ok) hl1) hc hs
theorem j_dstore_13 {g : jv_G} {X : jv_X} {I : jv_I} {pc n : Nat} {st : List Value} {sh : Nat → jv_S} {V : Nat → Nat → Int32} {L : Nat → Nat → Int64} {k z : Nat} {v0 v1 v2 v3 v4 v5 v6 v7 v8 v9 v10 v11 v12 : Option Value} {rest : List (Option Value)} {w w2 : Option Value} {x : UInt64} (ok : jv_c1 v12 = true) (hn : 14 < jn I) (d : decode (jb I) pc = .ok (.dstore 13, 2)) (kk : jv_J g X I (pc + 2) (v0 :: v1 :: v2 :: v3 :: v4 :: v5 :: v6 :: v7 :: v8 :: v9 :: v10 :: v11 :: v12 :: some (.double x) :: none :: rest) (st) n sh V L k z) : jv_J g X I (pc) (v0 :: v1 :: v2 :: v3 :: v4 :: v5 :: v6 :: v7 :: v8 :: v9 :: v10 :: v11 :: v12 :: w :: w2 :: rest) (.double x :: st) n sh V L k z := by
  obtain ⟨p, l, e, R, s, m, args, below, meth, c, Q⟩ := X
  intro hC lsA H locs cells slots hP hS hl hc hs
  refine lv_dstore hC.1 hC.2.1 d hl hn rfl (fun ls1 hl1 => ?_)
  exact kk hC ls1 H locs cells slots hP hS (jv_st2 (ls := v0 :: v1 :: v2 :: v3 :: v4 :: v5 :: v6 :: v7 :: v8 :: v9 :: v10 :: v11 :: v12 :: w :: w2 :: rest) (v := .double x) (i := 13) (fun j v hj hv => by
      have hj : j = 12 := by omega
      subst hj
      cases hv
      simpa [jv_c1] using jv_c1n ok) hl1) hc hs
theorem j_iinc_13 {g : jv_G} {X : jv_X} {I : jv_I} {pc n : Nat} {st : List Value} {sh : Nat → jv_S} {V : Nat → Nat → Int32} {L : Nat → Nat → Int64} {k z : Nat} {v0 v1 v2 v3 v4 v5 v6 v7 v8 v9 v10 v11 v12 : Option Value} {rest : List (Option Value)} {x v : Int32} {q : Int} (ok : jv_c1 v12 = true) (hn : 13 < jn I) (d : decode (jb I) pc = .ok (.iinc 13 q, 3)) (hv : x + Int32.ofInt q = v) (kk : jv_J g X I (pc + 3) (v0 :: v1 :: v2 :: v3 :: v4 :: v5 :: v6 :: v7 :: v8 :: v9 :: v10 :: v11 :: v12 :: some (.int v) :: rest) (st) n sh V L k z) : jv_J g X I (pc) (v0 :: v1 :: v2 :: v3 :: v4 :: v5 :: v6 :: v7 :: v8 :: v9 :: v10 :: v11 :: v12 :: some (.int x) :: rest) (st) n sh V L k z := by
  obtain ⟨p, l, e, R, s, m, args, below, meth, c, Q⟩ := X
  intro hC lsA H locs cells slots hP hS hl hc hs
  obtain ⟨q9, hq9⟩ := List.getElem?_of_mem (jv_lst_mem.mpr (show (v0 :: v1 :: v2 :: v3 :: v4 :: v5 :: v6 :: v7 :: v8 :: v9 :: v10 :: v11 :: v12 :: some (.int x) :: rest)[13]? = some (some (.int x)) from rfl))
  refine lv_iinc (v := v) hC.1 hC.2.1 d hl hq9 hv hn rfl (fun ls1 hl1 => ?_)
  exact kk hC ls1 H locs cells slots hP hS (jv_st1 (ls := v0 :: v1 :: v2 :: v3 :: v4 :: v5 :: v6 :: v7 :: v8 :: v9 :: v10 :: v11 :: v12 :: some (.int x) :: rest) (v := .int v) (i := 13) (fun j v hj hv => by
      have hj : j = 12 := by omega
      subst hj
      cases hv
      simpa [jv_c1] using jv_c1n ok) hl1) hc hs
theorem j_inc1_13 {g : jv_G} {X : jv_X} {I : jv_I} {pc n : Nat} {st : List Value} {sh : Nat → jv_S} {V : Nat → Nat → Int32} {L : Nat → Nat → Int64} {k z : Nat} {v0 v1 v2 v3 v4 v5 v6 v7 v8 v9 v10 v11 v12 : Option Value} {rest : List (Option Value)}  {x : Nat} (ok : jv_c1 v12 = true) (hn : 13 < jn I) (d : decode (jb I) pc = .ok (.iinc 13 1, 3)) (kk : jv_J g X I (pc + 3) (v0 :: v1 :: v2 :: v3 :: v4 :: v5 :: v6 :: v7 :: v8 :: v9 :: v10 :: v11 :: v12 :: some (.int (nI (x + 1))) :: rest) (st) n sh V L k z) : jv_J g X I (pc) (v0 :: v1 :: v2 :: v3 :: v4 :: v5 :: v6 :: v7 :: v8 :: v9 :: v10 :: v11 :: v12 :: some (.int (nI x)) :: rest) (st) n sh V L k z := j_iinc_13 ok hn d (jv_inc x) kk
theorem j_iload_14 {g : jv_G} {X : jv_X} {I : jv_I} {pc n : Nat} {st : List Value} {sh : Nat → jv_S} {V : Nat → Nat → Int32} {L : Nat → Nat → Int64} {k z : Nat} {v0 v1 v2 v3 v4 v5 v6 v7 v8 v9 v10 v11 v12 v13 : Option Value} {rest : List (Option Value)} {x : Int32} (d : decode (jb I) pc = .ok (.iload 14, 2)) (kk : jv_J g X I (pc + 2) (v0 :: v1 :: v2 :: v3 :: v4 :: v5 :: v6 :: v7 :: v8 :: v9 :: v10 :: v11 :: v12 :: v13 :: some (.int x) :: rest) (.int x :: st) n sh V L k z) : jv_J g X I (pc) (v0 :: v1 :: v2 :: v3 :: v4 :: v5 :: v6 :: v7 :: v8 :: v9 :: v10 :: v11 :: v12 :: v13 :: some (.int x) :: rest) (st) n sh V L k z := by
  obtain ⟨p, l, e, R, s, m, args, below, meth, c, Q⟩ := X
  intro hC lsA H locs cells slots hP hS hl hc hs
  exact lv_iload hC.1 hC.2.1 d (jv_ld (v := .int x) hl rfl) (kk hC lsA H locs cells slots hP hS hl hc hs)
theorem j_aload_14 {g : jv_G} {X : jv_X} {I : jv_I} {pc n : Nat} {st : List Value} {sh : Nat → jv_S} {V : Nat → Nat → Int32} {L : Nat → Nat → Int64} {k z : Nat} {v0 v1 v2 v3 v4 v5 v6 v7 v8 v9 v10 v11 v12 v13 : Option Value} {rest : List (Option Value)} {x : Nat} (d : decode (jb I) pc = .ok (.aload 14, 2)) (kk : jv_J g X I (pc + 2) (v0 :: v1 :: v2 :: v3 :: v4 :: v5 :: v6 :: v7 :: v8 :: v9 :: v10 :: v11 :: v12 :: v13 :: some (jv_r g x) :: rest) (jv_r g x :: st) n sh V L k z) : jv_J g X I (pc) (v0 :: v1 :: v2 :: v3 :: v4 :: v5 :: v6 :: v7 :: v8 :: v9 :: v10 :: v11 :: v12 :: v13 :: some (jv_r g x) :: rest) (st) n sh V L k z := by
  obtain ⟨p, l, e, R, s, m, args, below, meth, c, Q⟩ := X
  intro hC lsA H locs cells slots hP hS hl hc hs
  exact lv_aload hC.1 hC.2.1 d (jv_ld (v := jv_r g x) hl rfl) (kk hC lsA H locs cells slots hP hS hl hc hs)
theorem j_lload_14 {g : jv_G} {X : jv_X} {I : jv_I} {pc n : Nat} {st : List Value} {sh : Nat → jv_S} {V : Nat → Nat → Int32} {L : Nat → Nat → Int64} {k z : Nat} {v0 v1 v2 v3 v4 v5 v6 v7 v8 v9 v10 v11 v12 v13 : Option Value} {rest : List (Option Value)} {x : Int64} (d : decode (jb I) pc = .ok (.lload 14, 2)) (kk : jv_J g X I (pc + 2) (v0 :: v1 :: v2 :: v3 :: v4 :: v5 :: v6 :: v7 :: v8 :: v9 :: v10 :: v11 :: v12 :: v13 :: some (.long x) :: rest) (.long x :: st) n sh V L k z) : jv_J g X I (pc) (v0 :: v1 :: v2 :: v3 :: v4 :: v5 :: v6 :: v7 :: v8 :: v9 :: v10 :: v11 :: v12 :: v13 :: some (.long x) :: rest) (st) n sh V L k z := by
  obtain ⟨p, l, e, R, s, m, args, below, meth, c, Q⟩ := X
  intro hC lsA H locs cells slots hP hS hl hc hs
  exact lv_lload hC.1 hC.2.1 d (jv_ld (v := .long x) hl rfl) (kk hC lsA H locs cells slots hP hS hl hc hs)
theorem j_dload_14 {g : jv_G} {X : jv_X} {I : jv_I} {pc n : Nat} {st : List Value} {sh : Nat → jv_S} {V : Nat → Nat → Int32} {L : Nat → Nat → Int64} {k z : Nat} {v0 v1 v2 v3 v4 v5 v6 v7 v8 v9 v10 v11 v12 v13 : Option Value} {rest : List (Option Value)} {x : UInt64} (d : decode (jb I) pc = .ok (.dload 14, 2)) (kk : jv_J g X I (pc + 2) (v0 :: v1 :: v2 :: v3 :: v4 :: v5 :: v6 :: v7 :: v8 :: v9 :: v10 :: v11 :: v12 :: v13 :: some (.double x) :: rest) (.double x :: st) n sh V L k z) : jv_J g X I (pc) (v0 :: v1 :: v2 :: v3 :: v4 :: v5 :: v6 :: v7 :: v8 :: v9 :: v10 :: v11 :: v12 :: v13 :: some (.double x) :: rest) (st) n sh V L k z := by
  obtain ⟨p, l, e, R, s, m, args, below, meth, c, Q⟩ := X
  intro hC lsA H locs cells slots hP hS hl hc hs
  exact lv_dload hC.1 hC.2.1 d (jv_ld (v := .double x) hl rfl) (kk hC lsA H locs cells slots hP hS hl hc hs)
theorem j_istore_14 {g : jv_G} {X : jv_X} {I : jv_I} {pc n : Nat} {st : List Value} {sh : Nat → jv_S} {V : Nat → Nat → Int32} {L : Nat → Nat → Int64} {k z : Nat} {v0 v1 v2 v3 v4 v5 v6 v7 v8 v9 v10 v11 v12 v13 : Option Value} {rest : List (Option Value)} {w : Option Value} {x : Int32} (ok : jv_c1 v13 = true) (hn : 14 < jn I) (d : decode (jb I) pc = .ok (.istore 14, 2)) (kk : jv_J g X I (pc + 2) (v0 :: v1 :: v2 :: v3 :: v4 :: v5 :: v6 :: v7 :: v8 :: v9 :: v10 :: v11 :: v12 :: v13 :: some (.int x) :: rest) (st) n sh V L k z) : jv_J g X I (pc) (v0 :: v1 :: v2 :: v3 :: v4 :: v5 :: v6 :: v7 :: v8 :: v9 :: v10 :: v11 :: v12 :: v13 :: w :: rest) (.int x :: st) n sh V L k z := by
  obtain ⟨p, l, e, R, s, m, args, below, meth, c, Q⟩ := X
  intro hC lsA H locs cells slots hP hS hl hc hs
  refine lv_istore hC.1 hC.2.1 d hl hn rfl (fun ls1 hl1 => ?_)
  exact kk hC ls1 H locs cells slots hP hS (jv_st1 (ls := v0 :: v1 :: v2 :: v3 :: v4 :: v5 :: v6 :: v7 :: v8 :: v9 :: v10 :: v11 :: v12 :: v13 :: w :: rest) (v := .int x) (i := 14) (fun j v hj hv => by
      have hj : j = 13 := by omega
      subst hj
      cases hv
      simpa [jv_c1] using jv_c1n ok) hl1) hc hs
theorem j_astore_14 {g : jv_G} {X : jv_X} {I : jv_I} {pc n : Nat} {st : List Value} {sh : Nat → jv_S} {V : Nat → Nat → Int32} {L : Nat → Nat → Int64} {k z : Nat} {v0 v1 v2 v3 v4 v5 v6 v7 v8 v9 v10 v11 v12 v13 : Option Value} {rest : List (Option Value)} {w : Option Value} {x : Nat} (ok : jv_c1 v13 = true) (hn : 14 < jn I) (d : decode (jb I) pc = .ok (.astore 14, 2)) (kk : jv_J g X I (pc + 2) (v0 :: v1 :: v2 :: v3 :: v4 :: v5 :: v6 :: v7 :: v8 :: v9 :: v10 :: v11 :: v12 :: v13 :: some (jv_r g x) :: rest) (st) n sh V L k z) : jv_J g X I (pc) (v0 :: v1 :: v2 :: v3 :: v4 :: v5 :: v6 :: v7 :: v8 :: v9 :: v10 :: v11 :: v12 :: v13 :: w :: rest) (jv_r g x :: st) n sh V L k z := by
  obtain ⟨p, l, e, R, s, m, args, below, meth, c, Q⟩ := X
  intro hC lsA H locs cells slots hP hS hl hc hs
  refine lv_astore hC.1 hC.2.1 d hl hn rfl (fun ls1 hl1 => ?_)
  exact kk hC ls1 H locs cells slots hP hS (jv_st1 (ls := v0 :: v1 :: v2 :: v3 :: v4 :: v5 :: v6 :: v7 :: v8 :: v9 :: v10 :: v11 :: v12 :: v13 :: w :: rest) (v := .ref (g.1 + x)) (i := 14) (fun j v hj hv => by
      have hj : j = 13 := by omega
      subst hj
      cases hv
      simpa [jv_c1] using jv_c1n ok) hl1) hc hs
theorem j_lstore_14 {g : jv_G} {X : jv_X} {I : jv_I} {pc n : Nat} {st : List Value} {sh : Nat → jv_S} {V : Nat → Nat → Int32} {L : Nat → Nat → Int64} {k z : Nat} {v0 v1 v2 v3 v4 v5 v6 v7 v8 v9 v10 v11 v12 v13 : Option Value} {rest : List (Option Value)} {w w2 : Option Value} {x : Int64} (ok : jv_c1 v13 = true) (hn : 15 < jn I) (d : decode (jb I) pc = .ok (.lstore 14, 2)) (kk : jv_J g X I (pc + 2) (v0 :: v1 :: v2 :: v3 :: v4 :: v5 :: v6 :: v7 :: v8 :: v9 :: v10 :: v11 :: v12 :: v13 :: some (.long x) :: none :: rest) (st) n sh V L k z) : jv_J g X I (pc) (v0 :: v1 :: v2 :: v3 :: v4 :: v5 :: v6 :: v7 :: v8 :: v9 :: v10 :: v11 :: v12 :: v13 :: w :: w2 :: rest) (.long x :: st) n sh V L k z := by
  obtain ⟨p, l, e, R, s, m, args, below, meth, c, Q⟩ := X
  intro hC lsA H locs cells slots hP hS hl hc hs
  refine lv_lstore hC.1 hC.2.1 d hl hn rfl (fun ls1 hl1 => ?_)
  exact kk hC ls1 H locs cells slots hP hS (jv_st2 (ls := v0 :: v1 :: v2 :: v3 :: v4 :: v5 :: v6 :: v7 :: v8 :: v9 :: v10 :: v11 :: v12 :: v13 :: w :: w2 :: rest) (v := .long x) (i := 14) (fun j v hj hv => by
      have hj : j = 13 := by omega
      subst hj
      cases hv
      simpa [jv_c1] using jv_c1n ok) hl1) hc hs
theorem j_dstore_14 {g : jv_G} {X : jv_X} {I : jv_I} {pc n : Nat} {st : List Value} {sh : Nat → jv_S} {V : Nat → Nat → Int32} {L : Nat → Nat → Int64} {k z : Nat} {v0 v1 v2 v3 v4 v5 v6 v7 v8 v9 v10 v11 v12 v13 : Option Value} {rest : List (Option Value)} {w w2 : Option Value} {x : UInt64} (ok : jv_c1 v13 = true) (hn : 15 < jn I) (d : decode (jb I) pc = .ok (.dstore 14, 2)) (kk : jv_J g X I (pc + 2) (v0 :: v1 :: v2 :: v3 :: v4 :: v5 :: v6 :: v7 :: v8 :: v9 :: v10 :: v11 :: v12 :: v13 :: some (.double x) :: none :: rest) (st) n sh V L k z) : jv_J g X I (pc) (v0 :: v1 :: v2 :: v3 :: v4 :: v5 :: v6 :: v7 :: v8 :: v9 :: v10 :: v11 :: v12 :: v13 :: w :: w2 :: rest) (.double x :: st) n sh V L k z := by
  obtain ⟨p, l, e, R, s, m, args, below, meth, c, Q⟩ := X
  intro hC lsA H locs cells slots hP hS hl hc hs
  refine lv_dstore hC.1 hC.2.1 d hl hn rfl (fun ls1 hl1 => ?_)
  exact kk hC ls1 H locs cells slots hP hS (jv_st2 (ls := v0 :: v1 :: v2 :: v3 :: v4 :: v5 :: v6 :: v7 :: v8 :: v9 :: v10 :: v11 :: v12 :: v13 :: w :: w2 :: rest) (v := .double x) (i := 14) (fun j v hj hv => by
      have hj : j = 13 := by omega
      subst hj
      cases hv
      simpa [jv_c1] using jv_c1n ok) hl1) hc hs
theorem j_iinc_14 {g : jv_G} {X : jv_X} {I : jv_I} {pc n : Nat} {st : List Value} {sh : Nat → jv_S} {V : Nat → Nat → Int32} {L : Nat → Nat → Int64} {k z : Nat} {v0 v1 v2 v3 v4 v5 v6 v7 v8 v9 v10 v11 v12 v13 : Option Value} {rest : List (Option Value)} {x v : Int32} {q : Int} (ok : jv_c1 v13 = true) (hn : 14 < jn I) (d : decode (jb I) pc = .ok (.iinc 14 q, 3)) (hv : x + Int32.ofInt q = v) (kk : jv_J g X I (pc + 3) (v0 :: v1 :: v2 :: v3 :: v4 :: v5 :: v6 :: v7 :: v8 :: v9 :: v10 :: v11 :: v12 :: v13 :: some (.int v) :: rest) (st) n sh V L k z) : jv_J g X I (pc) (v0 :: v1 :: v2 :: v3 :: v4 :: v5 :: v6 :: v7 :: v8 :: v9 :: v10 :: v11 :: v12 :: v13 :: some (.int x) :: rest) (st) n sh V L k z := by
  obtain ⟨p, l, e, R, s, m, args, below, meth, c, Q⟩ := X
  intro hC lsA H locs cells slots hP hS hl hc hs
  obtain ⟨q9, hq9⟩ := List.getElem?_of_mem (jv_lst_mem.mpr (show (v0 :: v1 :: v2 :: v3 :: v4 :: v5 :: v6 :: v7 :: v8 :: v9 :: v10 :: v11 :: v12 :: v13 :: some (.int x) :: rest)[14]? = some (some (.int x)) from rfl))
  refine lv_iinc (v := v) hC.1 hC.2.1 d hl hq9 hv hn rfl (fun ls1 hl1 => ?_)
  exact kk hC ls1 H locs cells slots hP hS (jv_st1 (ls := v0 :: v1 :: v2 :: v3 :: v4 :: v5 :: v6 :: v7 :: v8 :: v9 :: v10 :: v11 :: v12 :: v13 :: some (.int x) :: rest) (v := .int v) (i := 14) (fun j v hj hv => by
      have hj : j = 13 := by omega
      subst hj
      cases hv
      simpa [jv_c1] using jv_c1n ok) hl1) hc hs
theorem j_inc1_14 {g : jv_G} {X : jv_X} {I : jv_I} {pc n : Nat} {st : List Value} {sh : Nat → jv_S} {V : Nat → Nat → Int32} {L : Nat → Nat → Int64} {k z : Nat} {v0 v1 v2 v3 v4 v5 v6 v7 v8 v9 v10 v11 v12 v13 : Option Value} {rest : List (Option Value)}  {x : Nat} (ok : jv_c1 v13 = true) (hn : 14 < jn I) (d : decode (jb I) pc = .ok (.iinc 14 1, 3)) (kk : jv_J g X I (pc + 3) (v0 :: v1 :: v2 :: v3 :: v4 :: v5 :: v6 :: v7 :: v8 :: v9 :: v10 :: v11 :: v12 :: v13 :: some (.int (nI (x + 1))) :: rest) (st) n sh V L k z) : jv_J g X I (pc) (v0 :: v1 :: v2 :: v3 :: v4 :: v5 :: v6 :: v7 :: v8 :: v9 :: v10 :: v11 :: v12 :: v13 :: some (.int (nI x)) :: rest) (st) n sh V L k z := j_iinc_14 ok hn d (jv_inc x) kk
theorem j_iload_15 {g : jv_G} {X : jv_X} {I : jv_I} {pc n : Nat} {st : List Value} {sh : Nat → jv_S} {V : Nat → Nat → Int32} {L : Nat → Nat → Int64} {k z : Nat} {v0 v1 v2 v3 v4 v5 v6 v7 v8 v9 v10 v11 v12 v13 v14 : Option Value} {rest : List (Option Value)} {x : Int32} (d : decode (jb I) pc = .ok (.iload 15, 2)) (kk : jv_J g X I (pc + 2) (v0 :: v1 :: v2 :: v3 :: v4 :: v5 :: v6 :: v7 :: v8 :: v9 :: v10 :: v11 :: v12 :: v13 :: v14 :: some (.int x) :: rest) (.int x :: st) n sh V L k z) : jv_J g X I (pc) (v0 :: v1 :: v2 :: v3 :: v4 :: v5 :: v6 :: v7 :: v8 :: v9 :: v10 :: v11 :: v12 :: v13 :: v14 :: some (.int x) :: rest) (st) n sh V L k z := by
  obtain ⟨p, l, e, R, s, m, args, below, meth, c, Q⟩ := X
  intro hC lsA H locs cells slots hP hS hl hc hs
  exact lv_iload hC.1 hC.2.1 d (jv_ld (v := .int x) hl rfl) (kk hC lsA H locs cells slots hP hS hl hc hs)
theorem j_aload_15 {g : jv_G} {X : jv_X} {I : jv_I} {pc n : Nat} {st : List Value} {sh : Nat → jv_S} {V : Nat → Nat → Int32} {L : Nat → Nat → Int64} {k z : Nat} {v0 v1 v2 v3 v4 v5 v6 v7 v8 v9 v10 v11 v12 v13 v14 : Option Value} {rest : List (Option Value)} {x : Nat} (d : decode (jb I) pc = .ok (.aload 15, 2)) (kk : jv_J g X I (pc + 2) (v0 :: v1 :: v2 :: v3 :: v4 :: v5 :: v6 :: v7 :: v8 :: v9 :: v10 :: v11 :: v12 :: v13 :: v14 :: some (jv_r g x) :: rest) (jv_r g x :: st) n sh V L k z) : jv_J g X I (pc) (v0 :: v1 :: v2 :: v3 :: v4 :: v5 :: v6 :: v7 :: v8 :: v9 :: v10 :: v11 :: v12 :: v13 :: v14 :: some (jv_r g x) :: rest) (st) n sh V L k z := by
  obtain ⟨p, l, e, R, s, m, args, below, meth, c, Q⟩ := X
  intro hC lsA H locs cells slots hP hS hl hc hs
  exact lv_aload hC.1 hC.2.1 d (jv_ld (v := jv_r g x) hl rfl) (kk hC lsA H locs cells slots hP hS hl hc hs)
theorem j_lload_15 {g : jv_G} {X : jv_X} {I : jv_I} {pc n : Nat} {st : List Value} {sh : Nat → jv_S} {V : Nat → Nat → Int32} {L : Nat → Nat → Int64} {k z : Nat} {v0 v1 v2 v3 v4 v5 v6 v7 v8 v9 v10 v11 v12 v13 v14 : Option Value} {rest : List (Option Value)} {x : Int64} (d : decode (jb I) pc = .ok (.lload 15, 2)) (kk : jv_J g X I (pc + 2) (v0 :: v1 :: v2 :: v3 :: v4 :: v5 :: v6 :: v7 :: v8 :: v9 :: v10 :: v11 :: v12 :: v13 :: v14 :: some (.long x) :: rest) (.long x :: st) n sh V L k z) : jv_J g X I (pc) (v0 :: v1 :: v2 :: v3 :: v4 :: v5 :: v6 :: v7 :: v8 :: v9 :: v10 :: v11 :: v12 :: v13 :: v14 :: some (.long x) :: rest) (st) n sh V L k z := by
  obtain ⟨p, l, e, R, s, m, args, below, meth, c, Q⟩ := X
  intro hC lsA H locs cells slots hP hS hl hc hs
  exact lv_lload hC.1 hC.2.1 d (jv_ld (v := .long x) hl rfl) (kk hC lsA H locs cells slots hP hS hl hc hs)
theorem j_dload_15 {g : jv_G} {X : jv_X} {I : jv_I} {pc n : Nat} {st : List Value} {sh : Nat → jv_S} {V : Nat → Nat → Int32} {L : Nat → Nat → Int64} {k z : Nat} {v0 v1 v2 v3 v4 v5 v6 v7 v8 v9 v10 v11 v12 v13 v14 : Option Value} {rest : List (Option Value)} {x : UInt64} (d : decode (jb I) pc = .ok (.dload 15, 2)) (kk : jv_J g X I (pc + 2) (v0 :: v1 :: v2 :: v3 :: v4 :: v5 :: v6 :: v7 :: v8 :: v9 :: v10 :: v11 :: v12 :: v13 :: v14 :: some (.double x) :: rest) (.double x :: st) n sh V L k z) : jv_J g X I (pc) (v0 :: v1 :: v2 :: v3 :: v4 :: v5 :: v6 :: v7 :: v8 :: v9 :: v10 :: v11 :: v12 :: v13 :: v14 :: some (.double x) :: rest) (st) n sh V L k z := by
  obtain ⟨p, l, e, R, s, m, args, below, meth, c, Q⟩ := X
  intro hC lsA H locs cells slots hP hS hl hc hs
  exact lv_dload hC.1 hC.2.1 d (jv_ld (v := .double x) hl rfl) (kk hC lsA H locs cells slots hP hS hl hc hs)
theorem j_istore_15 {g : jv_G} {X : jv_X} {I : jv_I} {pc n : Nat} {st : List Value} {sh : Nat → jv_S} {V : Nat → Nat → Int32} {L : Nat → Nat → Int64} {k z : Nat} {v0 v1 v2 v3 v4 v5 v6 v7 v8 v9 v10 v11 v12 v13 v14 : Option Value} {rest : List (Option Value)} {w : Option Value} {x : Int32} (ok : jv_c1 v14 = true) (hn : 15 < jn I) (d : decode (jb I) pc = .ok (.istore 15, 2)) (kk : jv_J g X I (pc + 2) (v0 :: v1 :: v2 :: v3 :: v4 :: v5 :: v6 :: v7 :: v8 :: v9 :: v10 :: v11 :: v12 :: v13 :: v14 :: some (.int x) :: rest) (st) n sh V L k z) : jv_J g X I (pc) (v0 :: v1 :: v2 :: v3 :: v4 :: v5 :: v6 :: v7 :: v8 :: v9 :: v10 :: v11 :: v12 :: v13 :: v14 :: w :: rest) (.int x :: st) n sh V L k z := by
  obtain ⟨p, l, e, R, s, m, args, below, meth, c, Q⟩ := X
  intro hC lsA H locs cells slots hP hS hl hc hs
  refine lv_istore hC.1 hC.2.1 d hl hn rfl (fun ls1 hl1 => ?_)
  exact kk hC ls1 H locs cells slots hP hS (jv_st1 (ls := v0 :: v1 :: v2 :: v3 :: v4 :: v5 :: v6 :: v7 :: v8 :: v9 :: v10 :: v11 :: v12 :: v13 :: v14 :: w :: rest) (v := .int x) (i := 15) (fun j v hj hv => by
      have hj : j = 14 := by omega
      subst hj
      cases hv
      simpa [jv_c1] using jv_c1n ok) hl1) hc hs
theorem j_astore_15 {g : jv_G} {X : jv_X} {I : jv_I} {pc n : Nat} {st : List Value} {sh : Nat → jv_S} {V : Nat → Nat → Int32} {L : Nat → Nat → Int64} {k z : Nat} {v0 v1 v2 v3 v4 v5 v6 v7 v8 v9 v10 v11 v12 v13 v14 : Option Value} {rest : List (Option Value)} {w : Option Value} {x : Nat} (ok : jv_c1 v14 = true) (hn : 15 < jn I) (d : decode (jb I) pc = .ok (.astore 15, 2)) (kk : jv_J g X I (pc + 2) (v0 :: v1 :: v2 :: v3 :: v4 :: v5 :: v6 :: v7 :: v8 :: v9 :: v10 :: v11 :: v12 :: v13 :: v14 :: some (jv_r g x) :: rest) (st) n sh V L k z) : jv_J g X I (pc) (v0 :: v1 :: v2 :: v3 :: v4 :: v5 :: v6 :: v7 :: v8 :: v9 :: v10 :: v11 :: v12 :: v13 :: v14 :: w :: rest) (jv_r g x :: st) n sh V L k z := by
  obtain ⟨p, l, e, R, s, m, args, below, meth, c, Q⟩ := X
  intro hC lsA H locs cells slots hP hS hl hc hs
  refine lv_astore hC.1 hC.2.1 d hl hn rfl (fun ls1 hl1 => ?_)
  exact kk hC ls1 H locs cells slots hP hS (jv_st1 (ls := v0 :: v1 :: v2 :: v3 :: v4 :: v5 :: v6 :: v7 :: v8 :: v9 :: v10 :: v11 :: v12 :: v13 :: v14 :: w :: rest) (v := .ref (g.1 + x)) (i := 15) (fun j v hj hv => by
      have hj : j = 14 := by omega
      subst hj
      cases hv
      simpa [jv_c1] using jv_c1n ok) hl1) hc hs
theorem j_lstore_15 {g : jv_G} {X : jv_X} {I : jv_I} {pc n : Nat} {st : List Value} {sh : Nat → jv_S} {V : Nat → Nat → Int32} {L : Nat → Nat → Int64} {k z : Nat} {v0 v1 v2 v3 v4 v5 v6 v7 v8 v9 v10 v11 v12 v13 v14 : Option Value} {rest : List (Option Value)} {w w2 : Option Value} {x : Int64} (ok : jv_c1 v14 = true) (hn : 16 < jn I) (d : decode (jb I) pc = .ok (.lstore 15, 2)) (kk : jv_J g X I (pc + 2) (v0 :: v1 :: v2 :: v3 :: v4 :: v5 :: v6 :: v7 :: v8 :: v9 :: v10 :: v11 :: v12 :: v13 :: v14 :: some (.long x) :: none :: rest) (st) n sh V L k z) : jv_J g X I (pc) (v0 :: v1 :: v2 :: v3 :: v4 :: v5 :: v6 :: v7 :: v8 :: v9 :: v10 :: v11 :: v12 :: v13 :: v14 :: w :: w2 :: rest) (.long x :: st) n sh V L k z := by
  obtain ⟨p, l, e, R, s, m, args, below, meth, c, Q⟩ := X
  intro hC lsA H locs cells slots hP hS hl hc hs
  refine lv_lstore hC.1 hC.2.1 d hl hn rfl (fun ls1 hl1 => ?_)
  exact kk hC ls1 H locs cells slots hP hS (jv_st2 (ls := v0 :: v1 :: v2 :: v3 :: v4 :: v5 :: v6 :: v7 :: v8 :: v9 :: v10 :: v11 :: v12 :: v13 :: v14 :: w :: w2 :: rest) (v := .long x) (i := 15) (fun j v hj hv => by
      have hj : j = 14 := by omega
      subst hj
      cases hv
      simpa [jv_c1] using jv_c1n ok) hl1) hc hs
theorem j_dstore_15 {g : jv_G} {X : jv_X} {I : jv_I} {pc n : Nat} {st : List Value} {sh : Nat → jv_S} {V : Nat → Nat → Int32} {L : Nat → Nat → Int64} {k z : Nat} {v0 v1 v2 v3 v4 v5 v6 v7 v8 v9 v10 v11 v12 v13 v14 : Option Value} {rest : List (Option Value)} {w w2 : Option Value} {x : UInt64} (ok : jv_c1 v14 = true) (hn : 16 < jn I) (d : decode (jb I) pc = .ok (.dstore 15, 2)) (kk : jv_J g X I (pc + 2) (v0 :: v1 :: v2 :: v3 :: v4 :: v5 :: v6 :: v7 :: v8 :: v9 :: v10 :: v11 :: v12 :: v13 :: v14 :: some (.double x) :: none :: rest) (st) n sh V L k z) : jv_J g X I (pc) (v0 :: v1 :: v2 :: v3 :: v4 :: v5 :: v6 :: v7 :: v8 :: v9 :: v10 :: v11 :: v12 :: v13 :: v14 :: w :: w2 :: rest) (.double x :: st) n sh V L k z := by
  obtain ⟨p, l, e, R, s, m, args, below, meth, c, Q⟩ := X
  intro hC lsA H locs cells slots hP hS hl hc hs
  refine lv_dstore hC.1 hC.2.1 d hl hn rfl (fun ls1 hl1 => ?_)
  exact kk hC ls1 H locs cells slots hP hS (jv_st2 (ls := v0 :: v1 :: v2 :: v3 :: v4 :: v5 :: v6 :: v7 :: v8 :: v9 :: v10 :: v11 :: v12 :: v13 :: v14 :: w :: w2 :: rest) (v := .double x) (i := 15) (fun j v hj hv => by
      have hj : j = 14 := by omega
      subst hj
      cases hv
      simpa [jv_c1] using jv_c1n ok) hl1) hc hs
theorem j_iinc_15 {g : jv_G} {X : jv_X} {I : jv_I} {pc n : Nat} {st : List Value} {sh : Nat → jv_S} {V : Nat → Nat → Int32} {L : Nat → Nat → Int64} {k z : Nat} {v0 v1 v2 v3 v4 v5 v6 v7 v8 v9 v10 v11 v12 v13 v14 : Option Value} {rest : List (Option Value)} {x v : Int32} {q : Int} (ok : jv_c1 v14 = true) (hn : 15 < jn I) (d : decode (jb I) pc = .ok (.iinc 15 q, 3)) (hv : x + Int32.ofInt q = v) (kk : jv_J g X I (pc + 3) (v0 :: v1 :: v2 :: v3 :: v4 :: v5 :: v6 :: v7 :: v8 :: v9 :: v10 :: v11 :: v12 :: v13 :: v14 :: some (.int v) :: rest) (st) n sh V L k z) : jv_J g X I (pc) (v0 :: v1 :: v2 :: v3 :: v4 :: v5 :: v6 :: v7 :: v8 :: v9 :: v10 :: v11 :: v12 :: v13 :: v14 :: some (.int x) :: rest) (st) n sh V L k z := by
  obtain ⟨p, l, e, R, s, m, args, below, meth, c, Q⟩ := X
  intro hC lsA H locs cells slots hP hS hl hc hs
  obtain ⟨q9, hq9⟩ := List.getElem?_of_mem (jv_lst_mem.mpr (show (v0 :: v1 :: v2 :: v3 :: v4 :: v5 :: v6 :: v7 :: v8 :: v9 :: v10 :: v11 :: v12 :: v13 :: v14 :: some (.int x) :: rest)[15]? = some (some (.int x)) from rfl))
  refine lv_iinc (v := v) hC.1 hC.2.1 d hl hq9 hv hn rfl (fun ls1 hl1 => ?_)
  exact kk hC ls1 H locs cells slots hP hS (jv_st1 (ls := v0 :: v1 :: v2 :: v3 :: v4 :: v5 :: v6 :: v7 :: v8 :: v9 :: v10 :: v11 :: v12 :: v13 :: v14 :: some (.int x) :: rest) (v := .int v) (i := 15) (fun j v hj hv => by
      have hj : j = 14 := by omega
      subst hj
      cases hv
      simpa [jv_c1] using jv_c1n ok) hl1) hc hs
theorem j_inc1_15 {g : jv_G} {X : jv_X} {I : jv_I} {pc n : Nat} {st : List Value} {sh : Nat → jv_S} {V : Nat → Nat → Int32} {L : Nat → Nat → Int64} {k z : Nat} {v0 v1 v2 v3 v4 v5 v6 v7 v8 v9 v10 v11 v12 v13 v14 : Option Value} {rest : List (Option Value)}  {x : Nat} (ok : jv_c1 v14 = true) (hn : 15 < jn I) (d : decode (jb I) pc = .ok (.iinc 15 1, 3)) (kk : jv_J g X I (pc + 3) (v0 :: v1 :: v2 :: v3 :: v4 :: v5 :: v6 :: v7 :: v8 :: v9 :: v10 :: v11 :: v12 :: v13 :: v14 :: some (.int (nI (x + 1))) :: rest) (st) n sh V L k z) : jv_J g X I (pc) (v0 :: v1 :: v2 :: v3 :: v4 :: v5 :: v6 :: v7 :: v8 :: v9 :: v10 :: v11 :: v12 :: v13 :: v14 :: some (.int (nI x)) :: rest) (st) n sh V L k z := j_iinc_15 ok hn d (jv_inc x) kk
theorem j_iload_16 {g : jv_G} {X : jv_X} {I : jv_I} {pc n : Nat} {st : List Value} {sh : Nat → jv_S} {V : Nat → Nat → Int32} {L : Nat → Nat → Int64} {k z : Nat} {v0 v1 v2 v3 v4 v5 v6 v7 v8 v9 v10 v11 v12 v13 v14 v15 : Option Value} {rest : List (Option Value)} {x : Int32} (d : decode (jb I) pc = .ok (.iload 16, 2)) (kk : jv_J g X I (pc + 2) (v0 :: v1 :: v2 :: v3 :: v4 :: v5 :: v6 :: v7 :: v8 :: v9 :: v10 :: v11 :: v12 :: v13 :: v14 :: v15 :: some (.int x) :: rest) (.int x :: st) n sh V L k z) : jv_J g X I (pc) (v0 :: v1 :: v2 :: v3 :: v4 :: v5 :: v6 :: v7 :: v8 :: v9 :: v10 :: v11 :: v12 :: v13 :: v14 :: v15 :: some (.int x) :: rest) (st) n sh V L k z := by
  obtain ⟨p, l, e, R, s, m, args, below, meth, c, Q⟩ := X
  intro hC lsA H locs cells slots hP hS hl hc hs
  exact lv_iload hC.1 hC.2.1 d (jv_ld (v := .int x) hl rfl) (kk hC lsA H locs cells slots hP hS hl hc hs)
theorem j_aload_16 {g : jv_G} {X : jv_X} {I : jv_I} {pc n : Nat} {st : List Value} {sh : Nat → jv_S} {V : Nat → Nat → Int32} {L : Nat → Nat → Int64} {k z : Nat} {v0 v1 v2 v3 v4 v5 v6 v7 v8 v9 v10 v11 v12 v13 v14 v15 : Option Value} {rest : List (Option Value)} {x : Nat} (d : decode (jb I) pc = .ok (.aload 16, 2)) (kk : jv_J g X I (pc + 2) (v0 :: v1 :: v2 :: v3 :: v4 :: v5 :: v6 :: v7 :: v8 :: v9 :: v10 :: v11 :: v12 :: v13 :: v14 :: v15 :: some (jv_r g x) :: rest) (jv_r g x :: st) n sh V L k z) : jv_J g X I (pc) (v0 :: v1 :: v2 :: v3 :: v4 :: v5 :: v6 :: v7 :: v8 :: v9 :: v10 :: v11 :: v12 :: v13 :: v14 :: v15 :: some (jv_r g x) :: rest) (st) n sh V L k z := by
  obtain ⟨p, l, e, R, s, m, args, below, meth, c, Q⟩ := X
  intro hC lsA H locs cells slots hP hS hl hc hs
  exact lv_aload hC.1 hC.2.1 d (jv_ld (v := jv_r g x) hl rfl) (kk hC lsA H locs cells slots hP hS hl hc hs)
theorem j_lload_16 {g : jv_G} {X : jv_X} {I : jv_I} {pc n : Nat} {st : List Value} {sh : Nat → jv_S} {V : Nat → Nat → Int32} {L : Nat → Nat → Int64} {k z : Nat} {v0 v1 v2 v3 v4 v5 v6 v7 v8 v9 v10 v11 v12 v13 v14 v15 : Option Value} {rest : List (Option Value)} {x : Int64} (d : decode (jb I) pc = .ok (.lload 16, 2)) (kk : jv_J g X I (pc + 2) (v0 :: v1 :: v2 :: v3 :: v4 :: v5 :: v6 :: v7 :: v8 :: v9 :: v10 :: v11 :: v12 :: v13 :: v14 :: v15 :: some (.long x) :: rest) (.long x :: st) n sh V L k z) : jv_J g X I (pc) (v0 :: v1 :: v2 :: v3 :: v4 :: v5 :: v6 :: v7 :: v8 :: v9 :: v10 :: v11 :: v12 :: v13 :: v14 :: v15 :: some (.long x) :: rest) (st) n sh V L k z := by
  obtain ⟨p, l, e, R, s, m, args, below, meth, c, Q⟩ := X
  intro hC lsA H locs cells slots hP hS hl hc hs
  exact lv_lload hC.1 hC.2.1 d (jv_ld (v := .long x) hl rfl) (kk hC lsA H locs cells slots hP hS hl hc hs)
theorem j_dload_16 {g : jv_G} {X : jv_X} {I : jv_I} {pc n : Nat} {st : List Value} {sh : Nat → jv_S} {V : Nat → Nat → Int32} {L : Nat → Nat → Int64} {k z : Nat} {v0 v1 v2 v3 v4 v5 v6 v7 v8 v9 v10 v11 v12 v13 v14 v15 : Option Value} {rest : List (Option Value)} {x : UInt64} (d : decode (jb I) pc = .ok (.dload 16, 2)) (kk : jv_J g X I (pc + 2) (v0 :: v1 :: v2 :: v3 :: v4 :: v5 :: v6 :: v7 :: v8 :: v9 :: v10 :: v11 :: v12 :: v13 :: v14 :: v15 :: some (.double x) :: rest) (.double x :: st) n sh V L k z) : jv_J g X I (pc) (v0 :: v1 :: v2 :: v3 :: v4 :: v5 :: v6 :: v7 :: v8 :: v9 :: v10 :: v11 :: v12 :: v13 :: v14 :: v15 :: some (.double x) :: rest) (st) n sh V L k z := by
  obtain ⟨p, l, e, R, s, m, args, below, meth, c, Q⟩ := X
  intro hC lsA H locs cells slots hP hS hl hc hs
  exact lv_dload hC.1 hC.2.1 d (jv_ld (v := .double x) hl rfl) (kk hC lsA H locs cells slots hP hS hl hc hs)
theorem j_istore_16 {g : jv_G} {X : jv_X} {I : jv_I} {pc n : Nat} {st : List Value} {sh : Nat → jv_S} {V : Nat → Nat → Int32} {L : Nat → Nat → Int64} {k z : Nat} {v0 v1 v2 v3 v4 v5 v6 v7 v8 v9 v10 v11 v12 v13 v14 v15 : Option Value} {rest : List (Option Value)} {w : Option Value} {x : Int32} (ok : jv_c1 v15 = true) (hn : 16 < jn I) (d : decode (jb I) pc = .ok (.istore 16, 2)) (kk : jv_J g X I (pc + 2) (v0 :: v1 :: v2 :: v3 :: v4 :: v5 :: v6 :: v7 :: v8 :: v9 :: v10 :: v11 :: v12 :: v13 :: v14 :: v15 :: some (.int x) :: rest) (st) n sh V L k z) : jv_J g X I (pc) (v0 :: v1 :: v2 :: v3 :: v4 :: v5 :: v6 :: v7 :: v8 :: v9 :: v10 :: v11 :: v12 :: v13 :: v14 :: v15 :: w :: rest) (.int x :: st) n sh V L k z := by
  obtain ⟨p, l, e, R, s, m, args, below, meth, c, Q⟩ := X
  intro hC lsA H locs cells slots hP hS hl hc hs
  refine lv_istore hC.1 hC.2.1 d hl hn rfl (fun ls1 hl1 => ?_)
  exact kk hC ls1 H locs cells slots hP hS (jv_st1 (ls := v0 :: v1 :: v2 :: v3 :: v4 :: v5 :: v6 :: v7 :: v8 :: v9 :: v10 :: v11 :: v12 :: v13 :: v14 :: v15 :: w :: rest) (v := .int x) (i := 16) (fun j v hj hv => by
      have hj : j = 15 := by omega
      subst hj
      cases hv
      simpa [jv_c1] using jv_c1n ok) hl1) hc hs
theorem j_astore_16 {g : jv_G} {X : jv_X} {I : jv_I} {pc n : Nat} {st : List Value} {sh : Nat → jv_S} {V : Nat → Nat → Int32} {L : Nat → Nat → Int64} {k z : Nat} {v0 v1 v2 v3 v4 v5 v6 v7 v8 v9 v10 v11 v12 v13 v14 v15 : Option Value} {rest : List (Option Value)} {w : Option Value} {x : Nat} (ok : jv_c1 v15 = true) (hn : 16 < jn I) (d : decode (jb I) pc = .ok (.astore 16, 2)) (kk : jv_J g X I (pc + 2) (v0 :: v1 :: v2 :: v3 :: v4 :: v5 :: v6 :: v7 :: v8 :: v9 :: v10 :: v11 :: v12 :: v13 :: v14 :: v15 :: some (jv_r g x) :: rest) (st) n sh V L k z) : jv_J g X I (pc) (v0 :: v1 :: v2 :: v3 :: v4 :: v5 :: v6 :: v7 :: v8 :: v9 :: v10 :: v11 :: v12 :: v13 :: v14 :: v15 :: w :: rest) (jv_r g x :: st) n sh V L k z := by
  obtain ⟨p, l, e, R, s, m, args, below, meth, c, Q⟩ := X
  intro hC lsA H locs cells slots hP hS hl hc hs
  refine lv_astore hC.1 hC.2.1 d hl hn rfl (fun ls1 hl1 => ?_)
  exact kk hC ls1 H locs cells slots hP hS (jv_st1 (ls := v0 :: v1 :: v2 :: v3 :: v4 :: v5 :: v6 :: v7 :: v8 :: v9 :: v10 :: v11 :: v12 :: v13 :: v14 :: v15 :: w :: rest) (v := .ref (g.1 + x)) (i := 16) (fun j v hj hv => by
      have hj : j = 15 := by omega
      subst hj
      cases hv
      simpa [jv_c1] using jv_c1n ok) hl1) hc hs
theorem j_lstore_16 {g : jv_G} {X : jv_X} {I : jv_I} {pc n : Nat} {st : List Value} {sh : Nat → jv_S} {V : Nat → Nat → Int32} {L : Nat → Nat → Int64} {k z : Nat} {v0 v1 v2 v3 v4 v5 v6 v7 v8 v9 v10 v11 v12 v13 v14 v15 : Option Value} {rest : List (Option Value)} {w w2 : Option Value} {x : Int64} (ok : jv_c1 v15 = true) (hn : 17 < jn I) (d : decode (jb I) pc = .ok (.lstore 16, 2)) (kk : jv_J g X I (pc + 2) (v0 :: v1 :: v2 :: v3 :: v4 :: v5 :: v6 :: v7 :: v8 :: v9 :: v10 :: v11 :: v12 :: v13 :: v14 :: v15 :: some (.long x) :: none :: rest) (st) n sh V L k z) : jv_J g X I (pc) (v0 :: v1 :: v2 :: v3 :: v4 :: v5 :: v6 :: v7 :: v8 :: v9 :: v10 :: v11 :: v12 :: v13 :: v14 :: v15 :: w :: w2 :: rest) (.long x :: st) n sh V L k z := by
  obtain ⟨p, l, e, R, s, m, args, below, meth, c, Q⟩ := X
  intro hC lsA H locs cells slots hP hS hl hc hs
  refine lv_lstore hC.1 hC.2.1 d hl hn rfl (fun ls1 hl1 => ?_)
  exact kk hC ls1 H locs cells slots hP hS (jv_st2 (ls := v0 :: v1 :: v2 :: v3 :: v4 :: v5 :: v6 :: v7 :: v8 :: v9 :: v10 :: v11 :: v12 :: v13 :: v14 :: v15 :: w :: w2 :: rest) (v := .long x) (i := 16) (fun j v hj hv => by
      have hj : j = 15 := by omega
      subst hj
      cases hv
      simpa [jv_c1] using jv_c1n ok) hl1) hc hs
theorem j_dstore_16 {g : jv_G} {X : jv_X} {I : jv_I} {pc n : Nat} {st : List Value} {sh : Nat → jv_S} {V : Nat → Nat → Int32} {L : Nat → Nat → Int64} {k z : Nat} {v0 v1 v2 v3 v4 v5 v6 v7 v8 v9 v10 v11 v12 v13 v14 v15 : Option Value} {rest : List (Option Value)} {w w2 : Option Value} {x : UInt64} (ok : jv_c1 v15 = true) (hn : 17 < jn I) (d : decode (jb I) pc = .ok (.dstore 16, 2)) (kk : jv_J g X I (pc + 2) (v0 :: v1 :: v2 :: v3 :: v4 :: v5 :: v6 :: v7 :: v8 :: v9 :: v10 :: v11 :: v12 :: v13 :: v14 :: v15 :: some (.double x) :: none :: rest) (st) n sh V L k z) : jv_J g X I (pc) (v0 :: v1 :: v2 :: v3 :: v4 :: v5 :: v6 :: v7 :: v8 :: v9 :: v10 :: v11 :: v12 :: v13 :: v14 :: v15 :: w :: w2 :: rest) (.double x :: st) n sh V L k z := by
  obtain ⟨p, l, e, R, s, m, args, below, meth, c, Q⟩ := X
  intro hC lsA H locs cells slots hP hS hl hc hs
  refine lv_dstore hC.1 hC.2.1 d hl hn rfl (fun ls1 hl1 => ?_)
  exact kk hC ls1 H locs cells slots hP hS (jv_st2 (ls := v0 :: v1 :: v2 :: v3 :: v4 :: v5 :: v6 :: v7 :: v8 :: v9 :: v10 :: v11 :: v12 :: v13 :: v14 :: v15 :: w :: w2 :: rest) (v := .double x) (i := 16) (fun j v hj hv => by
      have hj : j = 15 := by omega
      subst hj
      cases hv
      simpa [jv_c1] using jv_c1n ok) hl1) hc hs
theorem j_iinc_16 {g : jv_G} {X : jv_X} {I : jv_I} {pc n : Nat} {st : List Value} {sh : Nat → jv_S} {V : Nat → Nat → Int32} {L : Nat → Nat → Int64} {k z : Nat} {v0 v1 v2 v3 v4 v5 v6 v7 v8 v9 v10 v11 v12 v13 v14 v15 : Option Value} {rest : List (Option Value)} {x v : Int32} {q : Int} (ok : jv_c1 v15 = true) (hn : 16 < jn I) (d : decode (jb I) pc = .ok (.iinc 16 q, 3)) (hv : x + Int32.ofInt q = v) (kk : jv_J g X I (pc + 3) (v0 :: v1 :: v2 :: v3 :: v4 :: v5 :: v6 :: v7 :: v8 :: v9 :: v10 :: v11 :: v12 :: v13 :: v14 :: v15 :: some (.int v) :: rest) (st) n sh V L k z) : jv_J g X I (pc) (v0 :: v1 :: v2 :: v3 :: v4 :: v5 :: v6 :: v7 :: v8 :: v9 :: v10 :: v11 :: v12 :: v13 :: v14 :: v15 :: some (.int x) :: rest) (st) n sh V L k z := by
  obtain ⟨p, l, e, R, s, m, args, below, meth, c, Q⟩ := X
  intro hC lsA H locs cells slots hP hS hl hc hs
  obtain ⟨q9, hq9⟩ := List.getElem?_of_mem (jv_lst_mem.mpr (show (v0 :: v1 :: v2 :: v3 :: v4 :: v5 :: v6 :: v7 :: v8 :: v9 :: v10 :: v11 :: v12 :: v13 :: v14 :: v15 :: some (.int x) :: rest)[16]? = some (some (.int x)) from rfl))
  refine lv_iinc (v := v) hC.1 hC.2.1 d hl hq9 hv hn rfl (fun ls1 hl1 => ?_)
  exact kk hC ls1 H locs cells slots hP hS (jv_st1 (ls := v0 :: v1 :: v2 :: v3 :: v4 :: v5 :: v6 :: v7 :: v8 :: v9 :: v10 :: v11 :: v12 :: v13 :: v14 :: v15 :: some (.int x) :: rest) (v := .int v) (i := 16) (fun j v hj hv => by
      have hj : j = 15 := by omega
      subst hj
      cases hv
      simpa [jv_c1] using jv_c1n ok) hl1) hc hs
theorem j_inc1_16 {g : jv_G} {X : jv_X} {I : jv_I} {pc n : Nat} {st : List Value} {sh : Nat → jv_S} {V : Nat → Nat → Int32} {L : Nat → Nat → Int64} {k z : Nat} {v0 v1 v2 v3 v4 v5 v6 v7 v8 v9 v10 v11 v12 v13 v14 v15 : Option Value} {rest : List (Option Value)}  {x : Nat} (ok : jv_c1 v15 = true) (hn : 16 < jn I) (d : decode (jb I) pc = .ok (.iinc 16 1, 3)) (kk : jv_J g X I (pc + 3) (v0 :: v1 :: v2 :: v3 :: v4 :: v5 :: v6 :: v7 :: v8 :: v9 :: v10 :: v11 :: v12 :: v13 :: v14 :: v15 :: some (.int (nI (x + 1))) :: rest) (st) n sh V L k z) : jv_J g X I (pc) (v0 :: v1 :: v2 :: v3 :: v4 :: v5 :: v6 :: v7 :: v8 :: v9 :: v10 :: v11 :: v12 :: v13 :: v14 :: v15 :: some (.int (nI x)) :: rest) (st) n sh V L k z := j_iinc_16 ok hn d (jv_inc x) kk
theorem j_iload_17 {g : jv_G} {X : jv_X} {I : jv_I} {pc n : Nat} {st : List Value} {sh : Nat → jv_S} {V : Nat → Nat → Int32} {L : Nat → Nat → Int64} {k z : Nat} {v0 v1 v2 v3 v4 v5 v6 v7 v8 v9 v10 v11 v12 v13 v14 v15 v16 : Option Value} {rest : List (Option Value)} {x : Int32} (d : decode (jb I) pc = .ok (.iload 17, 2)) (kk : jv_J g X I (pc + 2) (v0 :: v1 :: v2 :: v3 :: v4 :: v5 :: v6 :: v7 :: v8 :: v9 :: v10 :: v11 :: v12 :: v13 :: v14 :: v15 :: v16 :: some (.int x) :: rest) (.int x :: st) n sh V L k z) : jv_J g X I (pc) (v0 :: v1 :: v2 :: v3 :: v4 :: v5 :: v6 :: v7 :: v8 :: v9 :: v10 :: v11 :: v12 :: v13 :: v14 :: v15 :: v16 :: some (.int x) :: rest) (st) n sh V L k z := by
  obtain ⟨p, l, e, R, s, m, args, below, meth, c, Q⟩ := X
  intro hC lsA H locs cells slots hP hS hl hc hs
  exact lv_iload hC.1 hC.2.1 d (jv_ld (v := .int x) hl rfl) (kk hC lsA H locs cells slots hP hS hl hc hs)
theorem j_aload_17 {g : jv_G} {X : jv_X} {I : jv_I} {pc n : Nat} {st : List Value} {sh : Nat → jv_S} {V : Nat → Nat → Int32} {L : Nat → Nat → Int64} {k z : Nat} {v0 v1 v2 v3 v4 v5 v6 v7 v8 v9 v10 v11 v12 v13 v14 v15 v16 : Option Value} {rest : List (Option Value)} {x : Nat} (d : decode (jb I) pc = .ok (.aload 17, 2)) (kk : jv_J g X I (pc + 2) (v0 :: v1 :: v2 :: v3 :: v4 :: v5 :: v6 :: v7 :: v8 :: v9 :: v10 :: v11 :: v12 :: v13 :: v14 :: v15 :: v16 :: some (jv_r g x) :: rest) (jv_r g x :: st) n sh V L k z) : jv_J g X I (pc) (v0 :: v1 :: v2 :: v3 :: v4 :: v5 :: v6 :: v7 :: v8 :: v9 :: v10 :: v11 :: v12 :: v13 :: v14 :: v15 :: v16 :: some (jv_r g x) :: rest) (st) n sh V L k z := by
  obtain ⟨p, l, e, R, s, m, args, below, meth, c, Q⟩ := X
  intro hC lsA H locs cells slots hP hS hl hc hs
  exact lv_aload hC.1 hC.2.1 d (jv_ld (v := jv_r g x) hl rfl) (kk hC lsA H locs cells slots hP hS hl hc hs)
theorem j_lload_17 {g : jv_G} {X : jv_X} {I : jv_I} {pc n : Nat} {st : List Value} {sh : Nat → jv_S} {V : Nat → Nat → Int32} {L : Nat → Nat → Int64} {k z : Nat} {v0 v1 v2 v3 v4 v5 v6 v7 v8 v9 v10 v11 v12 v13 v14 v15 v16 : Option Value} {rest : List (Option Value)} {x : Int64} (d : decode (jb I) pc = .ok (.lload 17, 2)) (kk : jv_J g X I (pc + 2) (v0 :: v1 :: v2 :: v3 :: v4 :: v5 :: v6 :: v7 :: v8 :: v9 :: v10 :: v11 :: v12 :: v13 :: v14 :: v15 :: v16 :: some (.long x) :: rest) (.long x :: st) n sh V L k z) : jv_J g X I (pc) (v0 :: v1 :: v2 :: v3 :: v4 :: v5 :: v6 :: v7 :: v8 :: v9 :: v10 :: v11 :: v12 :: v13 :: v14 :: v15 :: v16 :: some (.long x) :: rest) (st) n sh V L k z := by
  obtain ⟨p, l, e, R, s, m, args, below, meth, c, Q⟩ := X
  intro hC lsA H locs cells slots hP hS hl hc hs
  exact lv_lload hC.1 hC.2.1 d (jv_ld (v := .long x) hl rfl) (kk hC lsA H locs cells slots hP hS hl hc hs)
theorem j_dload_17 {g : jv_G} {X : jv_X} {I : jv_I} {pc n : Nat} {st : List Value} {sh : Nat → jv_S} {V : Nat → Nat → Int32} {L : Nat → Nat → Int64} {k z : Nat} {v0 v1 v2 v3 v4 v5 v6 v7 v8 v9 v10 v11 v12 v13 v14 v15 v16 : Option Value} {rest : List (Option Value)} {x : UInt64} (d : decode (jb I) pc = .ok (.dload 17, 2)) (kk : jv_J g X I (pc + 2) (v0 :: v1 :: v2 :: v3 :: v4 :: v5 :: v6 :: v7 :: v8 :: v9 :: v10 :: v11 :: v12 :: v13 :: v14 :: v15 :: v16 :: some (.double x) :: rest) (.double x :: st) n sh V L k z) : jv_J g X I (pc) (v0 :: v1 :: v2 :: v3 :: v4 :: v5 :: v6 :: v7 :: v8 :: v9 :: v10 :: v11 :: v12 :: v13 :: v14 :: v15 :: v16 :: some (.double x) :: rest) (st) n sh V L k z := by
  obtain ⟨p, l, e, R, s, m, args, below, meth, c, Q⟩ := X
  intro hC lsA H locs cells slots hP hS hl hc hs
  exact lv_dload hC.1 hC.2.1 d (jv_ld (v := .double x) hl rfl) (kk hC lsA H locs cells slots hP hS hl hc hs)
theorem j_istore_17 {g : jv_G} {X : jv_X} {I : jv_I} {pc n : Nat} {st : List Value} {sh : Nat → jv_S} {V : Nat → Nat → Int32} {L : Nat → Nat → Int64} {k z : Nat} {v0 v1 v2 v3 v4 v5 v6 v7 v8 v9 v10 v11 v12 v13 v14 v15 v16 : Option Value} {rest : List (Option Value)} {w : Option Value} {x : Int32} (ok : jv_c1 v16 = true) (hn : 17 < jn I) (d : decode (jb I) pc = .ok (.istore 17, 2)) (kk : jv_J g X I (pc + 2) (v0 :: v1 :: v2 :: v3 :: v4 :: v5 :: v6 :: v7 :: v8 :: v9 :: v10 :: v11 :: v12 :: v13 :: v14 :: v15 :: v16 :: some (.int x) :: rest) (st) n sh V L k z) : jv_J g X I (pc) (v0 :: v1 :: v2 :: v3 :: v4 :: v5 :: v6 :: v7 :: v8 :: v9 :: v10 :: v11 :: v12 :: v13 :: v14 :: v15 :: v16 :: w :: rest) (.int x :: st) n sh V L k z := by
  obtain ⟨p, l, e, R, s, m, args, below, meth, c, Q⟩ := X
  intro hC lsA H locs cells slots hP hS hl hc hs
  refine lv_istore hC.1 hC.2.1 d hl hn rfl (fun ls1 hl1 => ?_)
  exact kk hC ls1 H locs cells slots hP hS (jv_st1 (ls := v0 :: v1 :: v2 :: v3 :: v4 :: v5 :: v6 :: v7 :: v8 :: v9 :: v10 :: v11 :: v12 :: v13 :: v14 :: v15 :: v16 :: w :: rest) (v := .int x) (i := 17) (fun j v hj hv => by
      have hj : j = 16 := by omega
      subst hj
      cases hv
      simpa [jv_c1] using jv_c1n ok) hl1) hc hs
theorem j_astore_17 {g : jv_G} {X : jv_X} {I : jv_I} {pc n : Nat} {st : List Value} {sh : Nat → jv_S} {V : Nat → Nat → Int32} {L : Nat → Nat → Int64} {k z : Nat} {v0 v1 v2 v3 v4 v5 v6 v7 v8 v9 v10 v11 v12 v13 v14 v15 v16 : Option Value} {rest : List (Option Value)} {w : Option Value} {x : Nat} (ok : jv_c1 v16 = true) (hn : 17 < jn I) (d : decode (jb I) pc = .ok (.astore 17, 2)) (kk : jv_J g X I (pc + 2) (v0 :: v1 :: v2 :: v3 :: v4 :: v5 :: v6 :: v7 :: v8 :: v9 :: v10 :: v11 :: v12 :: v13 :: v14 :: v15 :: v16 :: some (jv_r g x) :: rest) (st) n sh V L k z) : jv_J g X I (pc) (v0 :: v1 :: v2 :: v3 :: v4 :: v5 :: v6 :: v7 :: v8 :: v9 :: v10 :: v11 :: v12 :: v13 :: v14 :: v15 :: v16 :: w :: rest) (jv_r g x :: st) n sh V L k z := by
  obtain ⟨p, l, e, R, s, m, args, below, meth, c, Q⟩ := X
  intro hC lsA H locs cells slots hP hS hl hc hs
  refine lv_astore hC.1 hC.2.1 d hl hn rfl (fun ls1 hl1 => ?_)
  exact kk hC ls1 H locs cells slots hP hS (jv_st1 (ls := v0 :: v1 :: v2 :: v3 :: v4 :: v5 :: v6 :: v7 :: v8 :: v9 :: v10 :: v11 :: v12 :: v13 :: v14 :: v15 :: v16 :: w :: rest) (v := .ref (g.1 + x)) (i := 17) (fun j v hj hv => by
      have hj : j = 16 := by omega
      subst hj
      cases hv
      simpa [jv_c1] using jv_c1n ok) hl1) hc hs
theorem j_lstore_17 {g : jv_G} {X : jv_X} {I : jv_I} {pc n : Nat} {st : List Value} {sh : Nat → jv_S} {V : Nat → Nat → Int32} {L : Nat → Nat → Int64} {k z : Nat} {v0 v1 v2 v3 v4 v5 v6 v7 v8 v9 v10 v11 v12 v13 v14 v15 v16 : Option Value} {rest : List (Option Value)} {w w2 : Option Value} {x : Int64} (ok : jv_c1 v16 = true) (hn : 18 < jn I) (d : decode (jb I) pc = .ok (.lstore 17, 2)) (kk : jv_J g X I (pc + 2) (v0 :: v1 :: v2 :: v3 :: v4 :: v5 :: v6 :: v7 :: v8 :: v9 :: v10 :: v11 :: v12 :: v13 :: v14 :: v15 :: v16 :: some (.long x) :: none :: rest) (st) n sh V L k z) : jv_J g X I (pc) (v0 :: v1 :: v2 :: v3 :: v4 :: v5 :: v6 :: v7 :: v8 :: v9 :: v10 :: v11 :: v12 :: v13 :: v14 :: v15 :: v16 :: w :: w2 :: rest) (.long x :: st) n sh V L k z := by
  obtain ⟨p, l, e, R, s, m, args, below, meth, c, Q⟩ := X
  intro hC lsA H locs cells slots hP hS hl hc hs
  refine lv_lstore hC.1 hC.2.1 d hl hn rfl (fun ls1 hl1 => ?_)
  exact kk hC ls1 H locs cells slots hP hS (jv_st2 (ls := v0 :: v1 :: v2 :: v3 :: v4 :: v5 :: v6 :: v7 :: v8 :: v9 :: v10 :: v11 :: v12 :: v13 :: v14 :: v15 :: v16 :: w :: w2 :: rest) (v := .long x) (i := 17) (fun j v hj hv => by
      have hj : j = 16 := by omega
      subst hj
      cases hv
      simpa [jv_c1] using jv_c1n ok) hl1) hc hs
theorem j_dstore_17 {g : jv_G} {X : jv_X} {I : jv_I} {pc n : Nat} {st : List Value} {sh : Nat → jv_S} {V : Nat → Nat → Int32} {L : Nat → Nat → Int64} {k z : Nat} {v0 v1 v2 v3 v4 v5 v6 v7 v8 v9 v10 v11 v12 v13 v14 v15 v16 : Option Value} {rest : List (Option Value)} {w w2 : Option Value} {x : UInt64} (ok : jv_c1 v16 = true) (hn : 18 < jn I) (d : decode (jb I) pc = .ok (.dstore 17, 2)) (kk : jv_J g X I (pc + 2) (v0 :: v1 :: v2 :: v3 :: v4 :: v5 :: v6 :: v7 :: v8 :: v9 :: v10 :: v11 :: v12 :: v13 :: v14 :: v15 :: v16 :: some (.double x) :: none :: rest) (st) n sh V L k z) : jv_J g X I (pc) (v0 :: v1 :: v2 :: v3 :: v4 :: v5 :: v6 :: v7 :: v8 :: v9 :: v10 :: v11 :: v12 :: v13 :: v14 :: v15 :: v16 :: w :: w2 :: rest) (.double x :: st) n sh V L k z := by
  obtain ⟨p, l, e, R, s, m, args, below, meth, c, Q⟩ := X
  intro hC lsA H locs cells slots hP hS hl hc hs
  refine lv_dstore hC.1 hC.2.1 d hl hn rfl (fun ls1 hl1 => ?_)
  exact kk hC ls1 H locs cells slots hP hS (jv_st2 (ls := v0 :: v1 :: v2 :: v3 :: v4 :: v5 :: v6 :: v7 :: v8 :: v9 :: v10 :: v11 :: v12 :: v13 :: v14 :: v15 :: v16 :: w :: w2 :: rest) (v := .double x) (i := 17) (fun j v hj hv => by
      have hj : j = 16 := by omega
      subst hj
      cases hv
      simpa [jv_c1] using jv_c1n ok) hl1) hc hs
theorem j_iinc_17 {g : jv_G} {X : jv_X} {I : jv_I} {pc n : Nat} {st : List Value} {sh : Nat → jv_S} {V : Nat → Nat → Int32} {L : Nat → Nat → Int64} {k z : Nat} {v0 v1 v2 v3 v4 v5 v6 v7 v8 v9 v10 v11 v12 v13 v14 v15 v16 : Option Value} {rest : List (Option Value)} {x v : Int32} {q : Int} (ok : jv_c1 v16 = true) (hn : 17 < jn I) (d : decode (jb I) pc = .ok (.iinc 17 q, 3)) (hv : x + Int32.ofInt q = v) (kk : jv_J g X I (pc + 3) (v0 :: v1 :: v2 :: v3 :: v4 :: v5 :: v6 :: v7 :: v8 :: v9 :: v10 :: v11 :: v12 :: v13 :: v14 :: v15 :: v16 :: some (.int v) :: rest) (st) n sh V L k z) : jv_J g X I (pc) (v0 :: v1 :: v2 :: v3 :: v4 :: v5 :: v6 :: v7 :: v8 :: v9 :: v10 :: v11 :: v12 :: v13 :: v14 :: v15 :: v16 :: some (.int x) :: rest) (st) n sh V L k z := by
  obtain ⟨p, l, e, R, s, m, args, below, meth, c, Q⟩ := X
  intro hC lsA H locs cells slots hP hS hl hc hs
  obtain ⟨q9, hq9⟩ := List.getElem?_of_mem (jv_lst_mem.mpr (show (v0 :: v1 :: v2 :: v3 :: v4 :: v5 :: v6 :: v7 :: v8 :: v9 :: v10 :: v11 :: v12 :: v13 :: v14 :: v15 :: v16 :: some (.int x) :: rest)[17]? = some (some (.int x)) from rfl))
  refine lv_iinc (v := v) hC.1 hC.2.1 d hl hq9 hv hn rfl (fun ls1 hl1 => ?_)
  exact kk hC ls1 H locs cells slots hP hS (jv_st1 (ls := v0 :: v1 :: v2 :: v3 :: v4 :: v5 :: v6 :: v7 :: v8 :: v9 :: v10 :: v11 :: v12 :: v13 :: v14 :: v15 :: v16 :: some (.int x) :: rest) (v := .int v) (i := 17) (fun j v hj hv => by
      have hj : j = 16 := by omega
      subst hj
      cases hv
      simpa [jv_c1] using jv_c1n ok) hl1) hc hs
theorem j_inc1_17 {g : jv_G} {X : jv_X} {I : jv_I} {pc n : Nat} {st : List Value} {sh : Nat → jv_S} {V : Nat → Nat → Int32} {L : Nat → Nat → Int64} {k z : Nat} {v0 v1 v2 v3 v4 v5 v6 v7 v8 v9 v10 v11 v12 v13 v14 v15 v16 : Option Value} {rest : List (Option Value)}  {x : Nat} (ok : jv_c1 v16 = true) (hn : 17 < jn I) (d : decode (jb I) pc = .ok (.iinc 17 1, 3)) (kk : jv_J g X I (pc + 3) (v0 :: v1 :: v2 :: v3 :: v4 :: v5 :: v6 :: v7 :: v8 :: v9 :: v10 :: v11 :: v12 :: v13 :: v14 :: v15 :: v16 :: some (.int (nI (x + 1))) :: rest) (st) n sh V L k z) : jv_J g X I (pc) (v0 :: v1 :: v2 :: v3 :: v4 :: v5 :: v6 :: v7 :: v8 :: v9 :: v10 :: v11 :: v12 :: v13 :: v14 :: v15 :: v16 :: some (.int (nI x)) :: rest) (st) n sh V L k z := j_iinc_17 ok hn d (jv_inc x) kk
theorem j_iload_18 {g : jv_G} {X : jv_X} {I : jv_I} {pc n : Nat} {st : List Value} {sh : Nat → jv_S} {V : Nat → Nat → Int32} {L : Nat → Nat → Int64} {k z : Nat} {v0 v1 v2 v3 v4 v5 v6 v7 v8 v9 v10 v11 v12 v13 v14 v15 v16 v17 : Option Value} {rest : List (Option Value)} {x : Int32} (d : decode (jb I) pc = .ok (.iload 18, 2)) (kk : jv_J g X I (pc + 2) (v0 :: v1 :: v2 :: v3 :: v4 :: v5 :: v6 :: v7 :: v8 :: v9 :: v10 :: v11 :: v12 :: v13 :: v14 :: v15 :: v16 :: v17 :: some (.int x) :: rest) (.int x :: st) n sh V L k z) : jv_J g X I (pc) (v0 :: v1 :: v2 :: v3 :: v4 :: v5 :: v6 :: v7 :: v8 :: v9 :: v10 :: v11 :: v12 :: v13 :: v14 :: v15 :: v16 :: v17 :: some (.int x) :: rest) (st) n sh V L k z := by
  obtain ⟨p, l, e, R, s, m, args, below, meth, c, Q⟩ := X
  intro hC lsA H locs cells slots hP hS hl hc hs
  exact lv_iload hC.1 hC.2.1 d (jv_ld (v := .int x) hl rfl) (kk hC lsA H locs cells slots hP hS hl hc hs)
theorem j_aload_18 {g : jv_G} {X : jv_X} {I : jv_I} {pc n : Nat} {st : List Value} {sh : Nat → jv_S} {V : Nat → Nat → Int32} {L : Nat → Nat → Int64} {k z : Nat} {v0 v1 v2 v3 v4 v5 v6 v7 v8 v9 v10 v11 v12 v13 v14 v15 v16 v17 : Option Value} {rest : List (Option Value)} {x : Nat} (d : decode (jb I) pc = .ok (.aload 18, 2)) (kk : jv_J g X I (pc + 2) (v0 :: v1 :: v2 :: v3 :: v4 :: v5 :: v6 :: v7 :: v8 :: v9 :: v10 :: v11 :: v12 :: v13 :: v14 :: v15 :: v16 :: v17 :: some (jv_r g x) :: rest) (jv_r g x :: st) n sh V L k z) : jv_J g X I (pc) (v0 :: v1 :: v2 :: v3 :: v4 :: v5 :: v6 :: v7 :: v8 :: v9 :: v10 :: v11 :: v12 :: v13 :: v14 :: v15 :: v16 :: v17 :: some (jv_r g x) :: rest) (st) n sh V L k z := by
  obtain ⟨p, l, e, R, s, m, args, below, meth, c, Q⟩ := X
  intro hC lsA H locs cells slots hP hS hl hc hs
  exact lv_aload hC.1 hC.2.1 d (jv_ld (v := jv_r g x) hl rfl) (kk hC lsA H locs cells slots hP hS hl hc hs)
theorem j_lload_18 {g : jv_G} {X : jv_X} {I : jv_I} {pc n : Nat} {st : List Value} {sh : Nat → jv_S} {V : Nat → Nat → Int32} {L : Nat → Nat → Int64} {k z : Nat} {v0 v1 v2 v3 v4 v5 v6 v7 v8 v9 v10 v11 v12 v13 v14 v15 v16 v17 : Option Value} {rest : List (Option Value)} {x : Int64} (d : decode (jb I) pc = .ok (.lload 18, 2)) (kk : jv_J g X I (pc + 2) (v0 :: v1 :: v2 :: v3 :: v4 :: v5 :: v6 :: v7 :: v8 :: v9 :: v10 :: v11 :: v12 :: v13 :: v14 :: v15 :: v16 :: v17 :: some (.long x) :: rest) (.long x :: st) n sh V L k z) : jv_J g X I (pc) (v0 :: v1 :: v2 :: v3 :: v4 :: v5 :: v6 :: v7 :: v8 :: v9 :: v10 :: v11 :: v12 :: v13 :: v14 :: v15 :: v16 :: v17 :: some (.long x) :: rest) (st) n sh V L k z := by
  obtain ⟨p, l, e, R, s, m, args, below, meth, c, Q⟩ := X
  intro hC lsA H locs cells slots hP hS hl hc hs
  exact lv_lload hC.1 hC.2.1 d (jv_ld (v := .long x) hl rfl) (kk hC lsA H locs cells slots hP hS hl hc hs)
theorem j_dload_18 {g : jv_G} {X : jv_X} {I : jv_I} {pc n : Nat} {st : List Value} {sh : Nat → jv_S} {V : Nat → Nat → Int32} {L : Nat → Nat → Int64} {k z : Nat} {v0 v1 v2 v3 v4 v5 v6 v7 v8 v9 v10 v11 v12 v13 v14 v15 v16 v17 : Option Value} {rest : List (Option Value)} {x : UInt64} (d : decode (jb I) pc = .ok (.dload 18, 2)) (kk : jv_J g X I (pc + 2) (v0 :: v1 :: v2 :: v3 :: v4 :: v5 :: v6 :: v7 :: v8 :: v9 :: v10 :: v11 :: v12 :: v13 :: v14 :: v15 :: v16 :: v17 :: some (.double x) :: rest) (.double x :: st) n sh V L k z) : jv_J g X I (pc) (v0 :: v1 :: v2 :: v3 :: v4 :: v5 :: v6 :: v7 :: v8 :: v9 :: v10 :: v11 :: v12 :: v13 :: v14 :: v15 :: v16 :: v17 :: some (.double x) :: rest) (st) n sh V L k z := by
  obtain ⟨p, l, e, R, s, m, args, below, meth, c, Q⟩ := X
  intro hC lsA H locs cells slots hP hS hl hc hs
  exact lv_dload hC.1 hC.2.1 d (jv_ld (v := .double x) hl rfl) (kk hC lsA H locs cells slots hP hS hl hc hs)
theorem j_istore_18 {g : jv_G} {X : jv_X} {I : jv_I} {pc n : Nat} {st : List Value} {sh : Nat → jv_S} {V : Nat → Nat → Int32} {L : Nat → Nat → Int64} {k z : Nat} {v0 v1 v2 v3 v4 v5 v6 v7 v8 v9 v10 v11 v12 v13 v14 v15 v16 v17 : Option Value} {rest : List (Option Value)} {w : Option Value} {x : Int32} (ok : jv_c1 v17 = true) (hn : 18 < jn I) (d : decode (jb I) pc = .ok (.istore 18, 2)) (kk : jv_J g X I (pc + 2) (v0 :: v1 :: v2 :: v3 :: v4 :: v5 :: v6 :: v7 :: v8 :: v9 :: v10 :: v11 :: v12 :: v13 :: v14 :: v15 :: v16 :: v17 :: some (.int x) :: rest) (st) n sh V L k z) : jv_J g X I (pc) (v0 :: v1 :: v2 :: v3 :: v4 :: v5 :: v6 :: v7 :: v8 :: v9 :: v10 :: v11 :: v12 :: v13 :: v14 :: v15 :: v16 :: v17 :: w :: rest) (.int x :: st) n sh V L k z := by
  obtain ⟨p, l, e, R, s, m, args, below, meth, c, Q⟩ := X
  intro hC lsA H locs cells slots hP hS hl hc hs
  refine lv_istore hC.1 hC.2.1 d hl hn rfl (fun ls1 hl1 => ?_)
  exact kk hC ls1 H locs cells slots hP hS (jv_st1 (ls := v0 :: v1 :: v2 :: v3 :: v4 :: v5 :: v6 :: v7 :: v8 :: v9 :: v10 :: v11 :: v12 :: v13 :: v14 :: v15 :: v16 :: v17 :: w :: rest) (v := .int x) (i := 18) (fun j v hj hv => by
      have hj : j = 17 := by omega
      subst hj
      cases hv
      simpa [jv_c1] using jv_c1n ok) hl1) hc hs
theorem j_astore_18 {g : jv_G} {X : jv_X} {I : jv_I} {pc n : Nat} {st : List Value} {sh : Nat → jv_S} {V : Nat → Nat → Int32} {L : Nat → Nat → Int64} {k z : Nat} {v0 v1 v2 v3 v4 v5 v6 v7 v8 v9 v10 v11 v12 v13 v14 v15 v16 v17 : Option Value} {rest : List (Option Value)} {w : Option Value} {x : Nat} (ok : jv_c1 v17 = true) (hn : 18 < jn I) (d : decode (jb I) pc = .ok (.astore 18, 2)) (kk : jv_J g X I (pc + 2) (v0 :: v1 :: v2 :: v3 :: v4 :: v5 :: v6 :: v7 :: v8 :: v9 :: v10 :: v11 :: v12 :: v13 :: v14 :: v15 :: v16 :: v17 :: some (jv_r g x) :: rest) (st) n sh V L k z) : jv_J g X I (pc) (v0 :: v1 :: v2 :: v3 :: v4 :: v5 :: v6 :: v7 :: v8 :: v9 :: v10 :: v11 :: v12 :: v13 :: v14 :: v15 :: v16 :: v17 :: w :: rest) (jv_r g x :: st) n sh V L k z := by
  obtain ⟨p, l, e, R, s, m, args, below, meth, c, Q⟩ := X
  intro hC lsA H locs cells slots hP hS hl hc hs
  refine lv_astore hC.1 hC.2.1 d hl hn rfl (fun ls1 hl1 => ?_)
  exact kk hC ls1 H locs cells slots hP hS (jv_st1 (ls := v0 :: v1 :: v2 :: v3 :: v4 :: v5 :: v6 :: v7 :: v8 :: v9 :: v10 :: v11 :: v12 :: v13 :: v14 :: v15 :: v16 :: v17 :: w :: rest) (v := .ref (g.1 + x)) (i := 18) (fun j v hj hv => by
      have hj : j = 17 := by omega
      subst hj
      cases hv
      simpa [jv_c1] using jv_c1n ok) hl1) hc hs
theorem j_lstore_18 {g : jv_G} {X : jv_X} {I : jv_I} {pc n : Nat} {st : List Value} {sh : Nat → jv_S} {V : Nat → Nat → Int32} {L : Nat → Nat → Int64} {k z : Nat} {v0 v1 v2 v3 v4 v5 v6 v7 v8 v9 v10 v11 v12 v13 v14 v15 v16 v17 : Option Value} {rest : List (Option Value)} {w w2 : Option Value} {x : Int64} (ok : jv_c1 v17 = true) (hn : 19 < jn I) (d : decode (jb I) pc = .ok (.lstore 18, 2)) (kk : jv_J g X I (pc + 2) (v0 :: v1 :: v2 :: v3 :: v4 :: v5 :: v6 :: v7 :: v8 :: v9 :: v10 :: v11 :: v12 :: v13 :: v14 :: v15 :: v16 :: v17 :: some (.long x) :: none :: rest) (st) n sh V L k z) : jv_J g X I (pc) (v0 :: v1 :: v2 :: v3 :: v4 :: v5 :: v6 :: v7 :: v8 :: v9 :: v10 :: v11 :: v12 :: v13 :: v14 :: v15 :: v16 :: v17 :: w :: w2 :: rest) (.long x :: st) n sh V L k z := by
  obtain ⟨p, l, e, R, s, m, args, below, meth, c, Q⟩ := X
  intro hC lsA H locs cells slots hP hS hl hc hs
  refine lv_lstore hC.1 hC.2.1 d hl hn rfl (fun ls1 hl1 => ?_)
  exact kk hC ls1 H locs cells slots hP hS (jv_st2 (ls := v0 :: v1 :: v2 :: v3 :: v4 :: v5 :: v6 :: v7 :: v8 :: v9 :: v10 :: v11 :: v12 :: v13 :: v14 :: v15 :: v16 :: v17 :: w :: w2 :: rest) (v := .long x) (i := 18) (fun j v hj hv => by
      have hj : j = 17 := by omega
      subst hj
      cases hv
      simpa [jv_c1] using jv_c1n ok) hl1) hc hs
theorem j_dstore_18 {g : jv_G} {X : jv_X} {I : jv_I} {pc n : Nat} {st : List Value} {sh : Nat → jv_S} {V : Nat → Nat → Int32} {L : Nat → Nat → Int64} {k z : Nat} {v0 v1 v2 v3 v4 v5 v6 v7 v8 v9 v10 v11 v12 v13 v14 v15 v16 v17 : Option Value} {rest : List (Option Value)} {w w2 : Option Value} {x : UInt64} (ok : jv_c1 v17 = true) (hn : 19 < jn I) (d : decode (jb I) pc = .ok (.dstore 18, 2)) (kk : jv_J g X I (pc + 2) (v0 :: v1 :: v2 :: v3 :: v4 :: v5 :: v6 :: v7 :: v8 :: v9 :: v10 :: v11 :: v12 :: v13 :: v14 :: v15 :: v16 :: v17 :: some (.double x) :: none :: rest) (st) n sh V L k z) : jv_J g X I (pc) (v0 :: v1 :: v2 :: v3 :: v4 :: v5 :: v6 :: v7 :: v8 :: v9 :: v10 :: v11 :: v12 :: v13 :: v14 :: v15 :: v16 :: v17 :: w :: w2 :: rest) (.double x :: st) n sh V L k z := by
  obtain ⟨p, l, e, R, s, m, args, below, meth, c, Q⟩ := X
  intro hC lsA H locs cells slots hP hS hl hc hs
  refine lv_dstore hC.1 hC.2.1 d hl hn rfl (fun ls1 hl1 => ?_)
  exact kk hC ls1 H locs cells slots hP hS (jv_st2 (ls := v0 :: v1 :: v2 :: v3 :: v4 :: v5 :: v6 :: v7 :: v8 :: v9 :: v10 :: v11 :: v12 :: v13 :: v14 :: v15 :: v16 :: v17 :: w :: w2 :: rest) (v := .double x) (i := 18) (fun j v hj hv => by
      have hj : j = 17 := by omega
      subst hj
      cases hv
      simpa [jv_c1] using jv_c1n ok) hl1) hc hs
theorem j_iinc_18 {g : jv_G} {X : jv_X} {I : jv_I} {pc n : Nat} {st : List Value} {sh : Nat → jv_S} {V : Nat → Nat → Int32} {L : Nat → Nat → Int64} {k z : Nat} {v0 v1 v2 v3 v4 v5 v6 v7 v8 v9 v10 v11 v12 v13 v14 v15 v16 v17 : Option Value} {rest : List (Option Value)} {x v : Int32} {q : Int} (ok : jv_c1 v17 = true) (hn : 18 < jn I) (d : decode (jb I) pc = .ok (.iinc 18 q, 3)) (hv : x + Int32.ofInt q = v) (kk : jv_J g X I (pc + 3) (v0 :: v1 :: v2 :: v3 :: v4 :: v5 :: v6 :: v7 :: v8 :: v9 :: v10 :: v11 :: v12 :: v13 :: v14 :: v15 :: v16 :: v17 :: some (.int v) :: rest) (st) n sh V L k z) : jv_J g X I (pc) (v0 :: v1 :: v2 :: v3 :: v4 :: v5 :: v6 :: v7 :: v8 :: v9 :: v10 :: v11 :: v12 :: v13 :: v14 :: v15 :: v16 :: v17 :: some (.int x) :: rest) (st) n sh V L k z := by
  obtain ⟨p, l, e, R, s, m, args, below, meth, c, Q⟩ := X
  intro hC lsA H locs cells slots hP hS hl hc hs
  obtain ⟨q9, hq9⟩ := List.getElem?_of_mem (jv_lst_mem.mpr (show (v0 :: v1 :: v2 :: v3 :: v4 :: v5 :: v6 :: v7 :: v8 :: v9 :: v10 :: v11 :: v12 :: v13 :: v14 :: v15 :: v16 :: v17 :: some (.int x) :: rest)[18]? = some (some (.int x)) from rfl))
  refine lv_iinc (v := v) hC.1 hC.2.1 d hl hq9 hv hn rfl (fun ls1 hl1 => ?_)
  exact kk hC ls1 H locs cells slots hP hS (jv_st1 (ls := v0 :: v1 :: v2 :: v3 :: v4 :: v5 :: v6 :: v7 :: v8 :: v9 :: v10 :: v11 :: v12 :: v13 :: v14 :: v15 :: v16 :: v17 :: some (.int x) :: rest) (v := .int v) (i := 18) (fun j v hj hv => by
      have hj : j = 17 := by omega
      subst hj
      cases hv
      simpa [jv_c1] using jv_c1n ok) hl1) hc hs
theorem j_inc1_18 {g : jv_G} {X : jv_X} {I : jv_I} {pc n : Nat} {st : List Value} {sh : Nat → jv_S} {V : Nat → Nat → Int32} {L : Nat → Nat → Int64} {k z : Nat} {v0 v1 v2 v3 v4 v5 v6 v7 v8 v9 v10 v11 v12 v13 v14 v15 v16 v17 : Option Value} {rest : List (Option Value)}  {x : Nat} (ok : jv_c1 v17 = true) (hn : 18 < jn I) (d : decode (jb I) pc = .ok (.iinc 18 1, 3)) (kk : jv_J g X I (pc + 3) (v0 :: v1 :: v2 :: v3 :: v4 :: v5 :: v6 :: v7 :: v8 :: v9 :: v10 :: v11 :: v12 :: v13 :: v14 :: v15 :: v16 :: v17 :: some (.int (nI (x + 1))) :: rest) (st) n sh V L k z) : jv_J g X I (pc) (v0 :: v1 :: v2 :: v3 :: v4 :: v5 :: v6 :: v7 :: v8 :: v9 :: v10 :: v11 :: v12 :: v13 :: v14 :: v15 :: v16 :: v17 :: some (.int (nI x)) :: rest) (st) n sh V L k z := j_iinc_18 ok hn d (jv_inc x) kk
theorem j_dup {g : jv_G} {X : jv_X} {I : jv_I} {pc n : Nat} {ls : List (Option Value)} {st : List Value} {sh : Nat → jv_S} {V : Nat → Nat → Int32} {L : Nat → Nat → Int64} {k z : Nat} {v : Value} (hv : v.category = 1) (d : decode (jb I) pc = .ok (.dup, 1)) (kk : jv_J g X I (pc + 1) ls (v :: v :: st) n sh V L k z) : jv_J g X I (pc) ls (v :: st) n sh V L k z := by
  obtain ⟨p, l, e, R, s, m, args, below, meth, c, Q⟩ := X
  intro hC lsA H locs cells slots hP hS hl hc hs
  exact lv_dup hC.1 hC.2.1 d hv (kk hC lsA H locs cells slots hP hS hl hc hs)
theorem j_dup2 {g : jv_G} {X : jv_X} {I : jv_I} {pc n : Nat} {ls : List (Option Value)} {st : List Value} {sh : Nat → jv_S} {V : Nat → Nat → Int32} {L : Nat → Nat → Int64} {k z : Nat} {v w : Value} (hv : v.category = 1) (hw : w.category = 1) (d : decode (jb I) pc = .ok (.dup2, 1)) (kk : jv_J g X I (pc + 1) ls (v :: w :: v :: w :: st) n sh V L k z) : jv_J g X I (pc) ls (v :: w :: st) n sh V L k z := by
  obtain ⟨p, l, e, R, s, m, args, below, meth, c, Q⟩ := X
  intro hC lsA H locs cells slots hP hS hl hc hs
  exact lv_dup2_11 hC.1 hC.2.1 d hv hw (kk hC lsA H locs cells slots hP hS hl hc hs)
theorem j_pop {g : jv_G} {X : jv_X} {I : jv_I} {pc n : Nat} {ls : List (Option Value)} {st : List Value} {sh : Nat → jv_S} {V : Nat → Nat → Int32} {L : Nat → Nat → Int64} {k z : Nat} {v : Value} (hv : v.category = 1) (d : decode (jb I) pc = .ok (.pop, 1)) (kk : jv_J g X I (pc + 1) ls (st) n sh V L k z) : jv_J g X I (pc) ls (v :: st) n sh V L k z := by
  obtain ⟨p, l, e, R, s, m, args, below, meth, c, Q⟩ := X
  intro hC lsA H locs cells slots hP hS hl hc hs
  exact lv_pop hC.1 hC.2.1 d hv (kk hC lsA H locs cells slots hP hS hl hc hs)
theorem j_iadd {g : jv_G} {X : jv_X} {I : jv_I} {pc n : Nat} {ls : List (Option Value)} {st : List Value} {sh : Nat → jv_S} {V : Nat → Nat → Int32} {L : Nat → Nat → Int64} {k z : Nat} {x y : Int32} (d : decode (jb I) pc = .ok (.iadd, 1)) (kk : jv_J g X I (pc + 1) ls (.int (x + y) :: st) n sh V L k z) : jv_J g X I (pc) ls (.int y :: .int x :: st) n sh V L k z := by
  obtain ⟨p, l, e, R, s, m, args, below, meth, c, Q⟩ := X
  intro hC lsA H locs cells slots hP hS hl hc hs
  exact lv_iadd hC.1 hC.2.1 d (kk hC lsA H locs cells slots hP hS hl hc hs)
theorem j_isub {g : jv_G} {X : jv_X} {I : jv_I} {pc n : Nat} {ls : List (Option Value)} {st : List Value} {sh : Nat → jv_S} {V : Nat → Nat → Int32} {L : Nat → Nat → Int64} {k z : Nat} {x y : Int32} (d : decode (jb I) pc = .ok (.isub, 1)) (kk : jv_J g X I (pc + 1) ls (.int (x - y) :: st) n sh V L k z) : jv_J g X I (pc) ls (.int y :: .int x :: st) n sh V L k z := by
  obtain ⟨p, l, e, R, s, m, args, below, meth, c, Q⟩ := X
  intro hC lsA H locs cells slots hP hS hl hc hs
  exact lv_isub hC.1 hC.2.1 d (kk hC lsA H locs cells slots hP hS hl hc hs)
theorem j_imul {g : jv_G} {X : jv_X} {I : jv_I} {pc n : Nat} {ls : List (Option Value)} {st : List Value} {sh : Nat → jv_S} {V : Nat → Nat → Int32} {L : Nat → Nat → Int64} {k z : Nat} {x y : Int32} (d : decode (jb I) pc = .ok (.imul, 1)) (kk : jv_J g X I (pc + 1) ls (.int (x * y) :: st) n sh V L k z) : jv_J g X I (pc) ls (.int y :: .int x :: st) n sh V L k z := by
  obtain ⟨p, l, e, R, s, m, args, below, meth, c, Q⟩ := X
  intro hC lsA H locs cells slots hP hS hl hc hs
  exact lv_imul hC.1 hC.2.1 d (kk hC lsA H locs cells slots hP hS hl hc hs)
theorem j_iand {g : jv_G} {X : jv_X} {I : jv_I} {pc n : Nat} {ls : List (Option Value)} {st : List Value} {sh : Nat → jv_S} {V : Nat → Nat → Int32} {L : Nat → Nat → Int64} {k z : Nat} {x y : Int32} (d : decode (jb I) pc = .ok (.iand, 1)) (kk : jv_J g X I (pc + 1) ls (.int (x &&& y) :: st) n sh V L k z) : jv_J g X I (pc) ls (.int y :: .int x :: st) n sh V L k z := by
  obtain ⟨p, l, e, R, s, m, args, below, meth, c, Q⟩ := X
  intro hC lsA H locs cells slots hP hS hl hc hs
  exact lv_iand hC.1 hC.2.1 d (kk hC lsA H locs cells slots hP hS hl hc hs)
theorem j_ior {g : jv_G} {X : jv_X} {I : jv_I} {pc n : Nat} {ls : List (Option Value)} {st : List Value} {sh : Nat → jv_S} {V : Nat → Nat → Int32} {L : Nat → Nat → Int64} {k z : Nat} {x y : Int32} (d : decode (jb I) pc = .ok (.ior, 1)) (kk : jv_J g X I (pc + 1) ls (.int (x ||| y) :: st) n sh V L k z) : jv_J g X I (pc) ls (.int y :: .int x :: st) n sh V L k z := by
  obtain ⟨p, l, e, R, s, m, args, below, meth, c, Q⟩ := X
  intro hC lsA H locs cells slots hP hS hl hc hs
  exact lv_ior hC.1 hC.2.1 d (kk hC lsA H locs cells slots hP hS hl hc hs)
theorem j_ishr {g : jv_G} {X : jv_X} {I : jv_I} {pc n : Nat} {ls : List (Option Value)} {st : List Value} {sh : Nat → jv_S} {V : Nat → Nat → Int32} {L : Nat → Nat → Int64} {k z : Nat} {x y : Int32} (d : decode (jb I) pc = .ok (.ishr, 1)) (kk : jv_J g X I (pc + 1) ls (.int (x >>> (y &&& 31)) :: st) n sh V L k z) : jv_J g X I (pc) ls (.int y :: .int x :: st) n sh V L k z := by
  obtain ⟨p, l, e, R, s, m, args, below, meth, c, Q⟩ := X
  intro hC lsA H locs cells slots hP hS hl hc hs
  exact lv_ishr hC.1 hC.2.1 d (kk hC lsA H locs cells slots hP hS hl hc hs)
theorem j_idiv {g : jv_G} {X : jv_X} {I : jv_I} {pc n : Nat} {ls : List (Option Value)} {st : List Value} {sh : Nat → jv_S} {V : Nat → Nat → Int32} {L : Nat → Nat → Int64} {k z : Nat} {x y : Int32} (hy : ¬ y = 0) (d : decode (jb I) pc = .ok (.idiv, 1)) (kk : jv_J g X I (pc + 1) ls (.int (x / y) :: st) n sh V L k z) : jv_J g X I (pc) ls (.int y :: .int x :: st) n sh V L k z := by
  obtain ⟨p, l, e, R, s, m, args, below, meth, c, Q⟩ := X
  intro hC lsA H locs cells slots hP hS hl hc hs
  exact lv_idiv hC.1 hC.2.1 d hy (kk hC lsA H locs cells slots hP hS hl hc hs)
theorem j_irem {g : jv_G} {X : jv_X} {I : jv_I} {pc n : Nat} {ls : List (Option Value)} {st : List Value} {sh : Nat → jv_S} {V : Nat → Nat → Int32} {L : Nat → Nat → Int64} {k z : Nat} {x y : Int32} (hy : ¬ y = 0) (d : decode (jb I) pc = .ok (.irem, 1)) (kk : jv_J g X I (pc + 1) ls (.int (x - x / y * y) :: st) n sh V L k z) : jv_J g X I (pc) ls (.int y :: .int x :: st) n sh V L k z := by
  obtain ⟨p, l, e, R, s, m, args, below, meth, c, Q⟩ := X
  intro hC lsA H locs cells slots hP hS hl hc hs
  exact lv_irem hC.1 hC.2.1 d hy (kk hC lsA H locs cells slots hP hS hl hc hs)
theorem j_ladd {g : jv_G} {X : jv_X} {I : jv_I} {pc n : Nat} {ls : List (Option Value)} {st : List Value} {sh : Nat → jv_S} {V : Nat → Nat → Int32} {L : Nat → Nat → Int64} {k z : Nat} {x y : Int64} (d : decode (jb I) pc = .ok (.ladd, 1)) (kk : jv_J g X I (pc + 1) ls (.long (x + y) :: st) n sh V L k z) : jv_J g X I (pc) ls (.long y :: .long x :: st) n sh V L k z := by
  obtain ⟨p, l, e, R, s, m, args, below, meth, c, Q⟩ := X
  intro hC lsA H locs cells slots hP hS hl hc hs
  exact lv_ladd hC.1 hC.2.1 d (kk hC lsA H locs cells slots hP hS hl hc hs)
theorem j_lmul {g : jv_G} {X : jv_X} {I : jv_I} {pc n : Nat} {ls : List (Option Value)} {st : List Value} {sh : Nat → jv_S} {V : Nat → Nat → Int32} {L : Nat → Nat → Int64} {k z : Nat} {x y : Int64} (d : decode (jb I) pc = .ok (.lmul, 1)) (kk : jv_J g X I (pc + 1) ls (.long (x * y) :: st) n sh V L k z) : jv_J g X I (pc) ls (.long y :: .long x :: st) n sh V L k z := by
  obtain ⟨p, l, e, R, s, m, args, below, meth, c, Q⟩ := X
  intro hC lsA H locs cells slots hP hS hl hc hs
  exact lv_lmul hC.1 hC.2.1 d (kk hC lsA H locs cells slots hP hS hl hc hs)
theorem j_i2l {g : jv_G} {X : jv_X} {I : jv_I} {pc n : Nat} {ls : List (Option Value)} {st : List Value} {sh : Nat → jv_S} {V : Nat → Nat → Int32} {L : Nat → Nat → Int64} {k z : Nat} {x : Int32} (d : decode (jb I) pc = .ok (.i2l, 1)) (kk : jv_J g X I (pc + 1) ls (.long x.toInt64 :: st) n sh V L k z) : jv_J g X I (pc) ls (.int x :: st) n sh V L k z := by
  obtain ⟨p, l, e, R, s, m, args, below, meth, c, Q⟩ := X
  intro hC lsA H locs cells slots hP hS hl hc hs
  exact lv_i2l hC.1 hC.2.1 d rfl (kk hC lsA H locs cells slots hP hS hl hc hs)
theorem j_lcmp {g : jv_G} {X : jv_X} {I : jv_I} {pc n : Nat} {ls : List (Option Value)} {st : List Value} {sh : Nat → jv_S} {V : Nat → Nat → Int32} {L : Nat → Nat → Int64} {k z : Nat} {x y : Int64} (d : decode (jb I) pc = .ok (.lcmp, 1)) (kk : jv_J g X I (pc + 1) ls (.int (lg_cmp x y) :: st) n sh V L k z) : jv_J g X I (pc) ls (.long y :: .long x :: st) n sh V L k z := by
  obtain ⟨p, l, e, R, s, m, args, below, meth, c, Q⟩ := X
  intro hC lsA H locs cells slots hP hS hl hc hs
  exact W.lcmp hC.1 hC.2.1 d (kk hC lsA H locs cells slots hP hS hl hc hs)
theorem j_i2d {g : jv_G} {X : jv_X} {I : jv_I} {pc n : Nat} {ls : List (Option Value)} {st : List Value} {sh : Nat → jv_S} {V : Nat → Nat → Int32} {L : Nat → Nat → Int64} {k z : Nat} {x : Int32} (d : decode (jb I) pc = .ok (.i2d, 1)) (kk : jv_J g X I (pc + 1) ls (.double (FP.i2d x) :: st) n sh V L k z) : jv_J g X I (pc) ls (.int x :: st) n sh V L k z := by
  obtain ⟨p, l, e, R, s, m, args, below, meth, c, Q⟩ := X
  intro hC lsA H locs cells slots hP hS hl hc hs
  exact lv_i2d hC.1 hC.2.1 d (kk hC lsA H locs cells slots hP hS hl hc hs)
theorem j_ddiv {g : jv_G} {X : jv_X} {I : jv_I} {pc n : Nat} {ls : List (Option Value)} {st : List Value} {sh : Nat → jv_S} {V : Nat → Nat → Int32} {L : Nat → Nat → Int64} {k z : Nat} {x y : UInt64} (hn : vf_n64 (FP.ddiv x y)) (d : decode (jb I) pc = .ok (.ddiv, 1)) (kk : jv_J g X I (pc + 1) ls (.double (FP.ddiv x y) :: st) n sh V L k z) : jv_J g X I (pc) ls (.double y :: .double x :: st) n sh V L k z := by
  obtain ⟨p, l, e, R, s, m, args, below, meth, c, Q⟩ := X
  intro hC lsA H locs cells slots hP hS hl hc hs
  exact lv_ddiv hC.1 hC.2.1 d hn (kk hC lsA H locs cells slots hP hS hl hc hs)
theorem j_if_eq {g : jv_G} {X : jv_X} {I : jv_I} {pc n : Nat} {ls : List (Option Value)} {st : List Value} {sh : Nat → jv_S} {V : Nat → Nat → Int32} {L : Nat → Nat → Int64} {k z : Nat} {x : Int32} {off : Int} {tgt : Nat} (d : decode (jb I) pc = .ok (.ifCond .eq off, 3)) (ht : (pc : Int) + off = (tgt : Int)) (kt : x = 0 → jv_J g X I (tgt) ls (st) n sh V L k z) (kf : ¬ x = 0 → jv_J g X I (pc + 3) ls (st) n sh V L k z) : jv_J g X I (pc) ls (.int x :: st) n sh V L k z := by
  obtain ⟨p, l, e, R, s, m, args, below, meth, c, Q⟩ := X
  intro hC lsA H locs cells slots hP hS hl hc hs
  exact lv_if_eq hC.1 hC.2.1 d ht (fun q => kt q hC lsA H locs cells slots hP hS hl hc hs) (fun q => kf q hC lsA H locs cells slots hP hS hl hc hs)
theorem j_if_ne {g : jv_G} {X : jv_X} {I : jv_I} {pc n : Nat} {ls : List (Option Value)} {st : List Value} {sh : Nat → jv_S} {V : Nat → Nat → Int32} {L : Nat → Nat → Int64} {k z : Nat} {x : Int32} {off : Int} {tgt : Nat} (d : decode (jb I) pc = .ok (.ifCond .ne off, 3)) (ht : (pc : Int) + off = (tgt : Int)) (kt : ¬ x = 0 → jv_J g X I (tgt) ls (st) n sh V L k z) (kf : x = 0 → jv_J g X I (pc + 3) ls (st) n sh V L k z) : jv_J g X I (pc) ls (.int x :: st) n sh V L k z := by
  obtain ⟨p, l, e, R, s, m, args, below, meth, c, Q⟩ := X
  intro hC lsA H locs cells slots hP hS hl hc hs
  exact lv_if_ne hC.1 hC.2.1 d ht (fun q => kt q hC lsA H locs cells slots hP hS hl hc hs) (fun q => kf q hC lsA H locs cells slots hP hS hl hc hs)
theorem j_if_lt {g : jv_G} {X : jv_X} {I : jv_I} {pc n : Nat} {ls : List (Option Value)} {st : List Value} {sh : Nat → jv_S} {V : Nat → Nat → Int32} {L : Nat → Nat → Int64} {k z : Nat} {x : Int32} {off : Int} {tgt : Nat} (d : decode (jb I) pc = .ok (.ifCond .lt off, 3)) (ht : (pc : Int) + off = (tgt : Int)) (kt : x < 0 → jv_J g X I (tgt) ls (st) n sh V L k z) (kf : ¬ x < 0 → jv_J g X I (pc + 3) ls (st) n sh V L k z) : jv_J g X I (pc) ls (.int x :: st) n sh V L k z := by
  obtain ⟨p, l, e, R, s, m, args, below, meth, c, Q⟩ := X
  intro hC lsA H locs cells slots hP hS hl hc hs
  exact lv_if_lt hC.1 hC.2.1 d ht (fun q => kt q hC lsA H locs cells slots hP hS hl hc hs) (fun q => kf q hC lsA H locs cells slots hP hS hl hc hs)
theorem j_if_ge {g : jv_G} {X : jv_X} {I : jv_I} {pc n : Nat} {ls : List (Option Value)} {st : List Value} {sh : Nat → jv_S} {V : Nat → Nat → Int32} {L : Nat → Nat → Int64} {k z : Nat} {x : Int32} {off : Int} {tgt : Nat} (d : decode (jb I) pc = .ok (.ifCond .ge off, 3)) (ht : (pc : Int) + off = (tgt : Int)) (kt : 0 ≤ x → jv_J g X I (tgt) ls (st) n sh V L k z) (kf : ¬ 0 ≤ x → jv_J g X I (pc + 3) ls (st) n sh V L k z) : jv_J g X I (pc) ls (.int x :: st) n sh V L k z := by
  obtain ⟨p, l, e, R, s, m, args, below, meth, c, Q⟩ := X
  intro hC lsA H locs cells slots hP hS hl hc hs
  exact lv_if_ge hC.1 hC.2.1 d ht (fun q => kt q hC lsA H locs cells slots hP hS hl hc hs) (fun q => kf q hC lsA H locs cells slots hP hS hl hc hs)
theorem j_if_gt {g : jv_G} {X : jv_X} {I : jv_I} {pc n : Nat} {ls : List (Option Value)} {st : List Value} {sh : Nat → jv_S} {V : Nat → Nat → Int32} {L : Nat → Nat → Int64} {k z : Nat} {x : Int32} {off : Int} {tgt : Nat} (d : decode (jb I) pc = .ok (.ifCond .gt off, 3)) (ht : (pc : Int) + off = (tgt : Int)) (kt : 0 < x → jv_J g X I (tgt) ls (st) n sh V L k z) (kf : ¬ 0 < x → jv_J g X I (pc + 3) ls (st) n sh V L k z) : jv_J g X I (pc) ls (.int x :: st) n sh V L k z := by
  obtain ⟨p, l, e, R, s, m, args, below, meth, c, Q⟩ := X
  intro hC lsA H locs cells slots hP hS hl hc hs
  exact lv_if_gt hC.1 hC.2.1 d ht (fun q => kt q hC lsA H locs cells slots hP hS hl hc hs) (fun q => kf q hC lsA H locs cells slots hP hS hl hc hs)
theorem j_if_le {g : jv_G} {X : jv_X} {I : jv_I} {pc n : Nat} {ls : List (Option Value)} {st : List Value} {sh : Nat → jv_S} {V : Nat → Nat → Int32} {L : Nat → Nat → Int64} {k z : Nat} {x : Int32} {off : Int} {tgt : Nat} (d : decode (jb I) pc = .ok (.ifCond .le off, 3)) (ht : (pc : Int) + off = (tgt : Int)) (kt : x ≤ 0 → jv_J g X I (tgt) ls (st) n sh V L k z) (kf : ¬ x ≤ 0 → jv_J g X I (pc + 3) ls (st) n sh V L k z) : jv_J g X I (pc) ls (.int x :: st) n sh V L k z := by
  obtain ⟨p, l, e, R, s, m, args, below, meth, c, Q⟩ := X
  intro hC lsA H locs cells slots hP hS hl hc hs
  exact lv_if_le hC.1 hC.2.1 d ht (fun q => kt q hC lsA H locs cells slots hP hS hl hc hs) (fun q => kf q hC lsA H locs cells slots hP hS hl hc hs)
theorem j_ic_eq {g : jv_G} {X : jv_X} {I : jv_I} {pc n : Nat} {ls : List (Option Value)} {st : List Value} {sh : Nat → jv_S} {V : Nat → Nat → Int32} {L : Nat → Nat → Int64} {k z : Nat} {x y : Int32} {off : Int} {tgt : Nat} (d : decode (jb I) pc = .ok (.if_icmp .eq off, 3)) (ht : (pc : Int) + off = (tgt : Int)) (kt : x = y → jv_J g X I (tgt) ls (st) n sh V L k z) (kf : ¬ x = y → jv_J g X I (pc + 3) ls (st) n sh V L k z) : jv_J g X I (pc) ls (.int y :: .int x :: st) n sh V L k z := by
  obtain ⟨p, l, e, R, s, m, args, below, meth, c, Q⟩ := X
  intro hC lsA H locs cells slots hP hS hl hc hs
  exact lv_icmp_eq hC.1 hC.2.1 d ht (fun q => kt q hC lsA H locs cells slots hP hS hl hc hs) (fun q => kf q hC lsA H locs cells slots hP hS hl hc hs)
theorem j_ic_ne {g : jv_G} {X : jv_X} {I : jv_I} {pc n : Nat} {ls : List (Option Value)} {st : List Value} {sh : Nat → jv_S} {V : Nat → Nat → Int32} {L : Nat → Nat → Int64} {k z : Nat} {x y : Int32} {off : Int} {tgt : Nat} (d : decode (jb I) pc = .ok (.if_icmp .ne off, 3)) (ht : (pc : Int) + off = (tgt : Int)) (kt : ¬ x = y → jv_J g X I (tgt) ls (st) n sh V L k z) (kf : x = y → jv_J g X I (pc + 3) ls (st) n sh V L k z) : jv_J g X I (pc) ls (.int y :: .int x :: st) n sh V L k z := by
  obtain ⟨p, l, e, R, s, m, args, below, meth, c, Q⟩ := X
  intro hC lsA H locs cells slots hP hS hl hc hs
  exact lv_icmp_ne hC.1 hC.2.1 d ht (fun q => kt q hC lsA H locs cells slots hP hS hl hc hs) (fun q => kf q hC lsA H locs cells slots hP hS hl hc hs)
theorem j_ic_lt {g : jv_G} {X : jv_X} {I : jv_I} {pc n : Nat} {ls : List (Option Value)} {st : List Value} {sh : Nat → jv_S} {V : Nat → Nat → Int32} {L : Nat → Nat → Int64} {k z : Nat} {x y : Int32} {off : Int} {tgt : Nat} (d : decode (jb I) pc = .ok (.if_icmp .lt off, 3)) (ht : (pc : Int) + off = (tgt : Int)) (kt : x < y → jv_J g X I (tgt) ls (st) n sh V L k z) (kf : ¬ x < y → jv_J g X I (pc + 3) ls (st) n sh V L k z) : jv_J g X I (pc) ls (.int y :: .int x :: st) n sh V L k z := by
  obtain ⟨p, l, e, R, s, m, args, below, meth, c, Q⟩ := X
  intro hC lsA H locs cells slots hP hS hl hc hs
  exact lv_icmp_lt hC.1 hC.2.1 d ht (fun q => kt q hC lsA H locs cells slots hP hS hl hc hs) (fun q => kf q hC lsA H locs cells slots hP hS hl hc hs)
theorem j_ic_ge {g : jv_G} {X : jv_X} {I : jv_I} {pc n : Nat} {ls : List (Option Value)} {st : List Value} {sh : Nat → jv_S} {V : Nat → Nat → Int32} {L : Nat → Nat → Int64} {k z : Nat} {x y : Int32} {off : Int} {tgt : Nat} (d : decode (jb I) pc = .ok (.if_icmp .ge off, 3)) (ht : (pc : Int) + off = (tgt : Int)) (kt : y ≤ x → jv_J g X I (tgt) ls (st) n sh V L k z) (kf : ¬ y ≤ x → jv_J g X I (pc + 3) ls (st) n sh V L k z) : jv_J g X I (pc) ls (.int y :: .int x :: st) n sh V L k z := by
  obtain ⟨p, l, e, R, s, m, args, below, meth, c, Q⟩ := X
  intro hC lsA H locs cells slots hP hS hl hc hs
  exact lv_icmp_ge hC.1 hC.2.1 d ht (fun q => kt q hC lsA H locs cells slots hP hS hl hc hs) (fun q => kf q hC lsA H locs cells slots hP hS hl hc hs)
theorem j_ic_gt {g : jv_G} {X : jv_X} {I : jv_I} {pc n : Nat} {ls : List (Option Value)} {st : List Value} {sh : Nat → jv_S} {V : Nat → Nat → Int32} {L : Nat → Nat → Int64} {k z : Nat} {x y : Int32} {off : Int} {tgt : Nat} (d : decode (jb I) pc = .ok (.if_icmp .gt off, 3)) (ht : (pc : Int) + off = (tgt : Int)) (kt : y < x → jv_J g X I (tgt) ls (st) n sh V L k z) (kf : ¬ y < x → jv_J g X I (pc + 3) ls (st) n sh V L k z) : jv_J g X I (pc) ls (.int y :: .int x :: st) n sh V L k z := by
  obtain ⟨p, l, e, R, s, m, args, below, meth, c, Q⟩ := X
  intro hC lsA H locs cells slots hP hS hl hc hs
  exact lv_icmp_gt hC.1 hC.2.1 d ht (fun q => kt q hC lsA H locs cells slots hP hS hl hc hs) (fun q => kf q hC lsA H locs cells slots hP hS hl hc hs)
theorem j_ic_le {g : jv_G} {X : jv_X} {I : jv_I} {pc n : Nat} {ls : List (Option Value)} {st : List Value} {sh : Nat → jv_S} {V : Nat → Nat → Int32} {L : Nat → Nat → Int64} {k z : Nat} {x y : Int32} {off : Int} {tgt : Nat} (d : decode (jb I) pc = .ok (.if_icmp .le off, 3)) (ht : (pc : Int) + off = (tgt : Int)) (kt : x ≤ y → jv_J g X I (tgt) ls (st) n sh V L k z) (kf : ¬ x ≤ y → jv_J g X I (pc + 3) ls (st) n sh V L k z) : jv_J g X I (pc) ls (.int y :: .int x :: st) n sh V L k z := by
  obtain ⟨p, l, e, R, s, m, args, below, meth, c, Q⟩ := X
  intro hC lsA H locs cells slots hP hS hl hc hs
  exact lv_icmp_le hC.1 hC.2.1 d ht (fun q => kt q hC lsA H locs cells slots hP hS hl hc hs) (fun q => kf q hC lsA H locs cells slots hP hS hl hc hs)
theorem j_goto {g : jv_G} {X : jv_X} {I : jv_I} {pc n : Nat} {ls : List (Option Value)} {st : List Value} {sh : Nat → jv_S} {V : Nat → Nat → Int32} {L : Nat → Nat → Int64} {k z : Nat} {off : Int} {tgt : Nat} (d : decode (jb I) pc = .ok (.goto off, 3)) (ht : (pc : Int) + off = (tgt : Int)) (kk : jv_J g X I (tgt) ls (st) n sh V L k z) : jv_J g X I (pc) ls (st) n sh V L k z := by
  obtain ⟨p, l, e, R, s, m, args, below, meth, c, Q⟩ := X
  intro hC lsA H locs cells slots hP hS hl hc hs
  exact lv_goto hC.1 hC.2.1 d ht (kk hC lsA H locs cells slots hP hS hl hc hs)
theorem j_swIn {g : jv_G} {X : jv_X} {I : jv_I} {pc n : Nat} {ls : List (Option Value)} {st : List Value} {sh : Nat → jv_S} {V : Nat → Nat → Int32} {L : Nat → Nat → Int64} {k z : Nat} {dflt lo hi : Int} {offs : Array Int} {len : Nat} {x : Int32} {off : Int} {tgt : Nat} (d : decode (jb I) pc = .ok (.tableswitch dflt lo hi offs, len)) (h1 : ¬ x.toInt < lo) (h2 : ¬ hi < x.toInt) (ho : offs[(x.toInt - lo).toNat]? = some off) (ht : (pc : Int) + off = (tgt : Int)) (kk : jv_J g X I (tgt) ls (st) n sh V L k z) : jv_J g X I (pc) ls (.int x :: st) n sh V L k z := by
  obtain ⟨p, l, e, R, s, m, args, below, meth, c, Q⟩ := X
  intro hC lsA H locs cells slots hP hS hl hc hs
  exact lv_tableIn hC.1 hC.2.1 d h1 h2 ho ht (kk hC lsA H locs cells slots hP hS hl hc hs)
theorem j_swOut {g : jv_G} {X : jv_X} {I : jv_I} {pc n : Nat} {ls : List (Option Value)} {st : List Value} {sh : Nat → jv_S} {V : Nat → Nat → Int32} {L : Nat → Nat → Int64} {k z : Nat} {dflt lo hi : Int} {offs : Array Int} {len : Nat} {x : Int32} {tgt : Nat} (d : decode (jb I) pc = .ok (.tableswitch dflt lo hi offs, len)) (h : x.toInt < lo ∨ hi < x.toInt) (ht : (pc : Int) + dflt = (tgt : Int)) (kk : jv_J g X I (tgt) ls (st) n sh V L k z) : jv_J g X I (pc) ls (.int x :: st) n sh V L k z := by
  obtain ⟨p, l, e, R, s, m, args, below, meth, c, Q⟩ := X
  intro hC lsA H locs cells slots hP hS hl hc hs
  exact lv_tableOut hC.1 hC.2.1 d h ht (kk hC lsA H locs cells slots hP hS hl hc hs)
