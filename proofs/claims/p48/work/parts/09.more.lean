/-! ===== arrays of references, copies, two dimensions; Math ===== -/
section JVK
variable {g : jv_G} {X : jv_X} {I I' : jv_I} {pc n : Nat} {ls : List (Option Value)} {st rest : List Value} {sh : Nat → jv_S} {V : Nat → Nat → Int32} {L : Nat → Nat → Int64} {k z : Nat} {T : jv_T}
theorem jv_anew {t N idx : Nat} {C : String} (ht : ∀ g : jv_G, (jv_tys g)[t]? = some (g.2.2 t, .object C)) (h3 : 2 ≤ t) (h5 : t ≤ 5) (hao : ∀ U, jv_E g U U.heap → va_AO C U) (hl : Cond.classLink (jo I) idx C ∈ jv_gw) (d : decode (jb I) pc = .ok (.anewarray idx, 3)) (hN : N < 100000) {k2 z2 : Nat} (hk : 1 + k2 ≤ k) (hz : N + z2 ≤ z)
    (kk : jv_J g X I (pc + 3) ls (jv_r g n :: st) (n + 1) (jv_NS sh n (t + 10, N, fun _ => none)) V L k2 z2) : jv_J g X I pc ls (.int (nI N) :: st) n sh V L k z := by
  obtain ⟨p, l, e, R, s, m, args, below, meth, cd, Q⟩ := X
  intro hC lsA H locs cells slots hP hS hl0 hcc hss
  obtain ⟨c1, c2, c3, c4, c5, c6, c7, c8, c9, c10, c11, c12, c13⟩ := id hC
  have hcl : (nI N).toNatClampNeg = N := nI_clamp (by omega)
  refine W.anew c1 c2 c4 (c5 _ hl) (va_AO.use (hao _ c10)) rfl d rfl (nI_pos (by omega)) (by rw [hcl]; omega) (by omega) (by rw [hcl]; omega) fun cA kA comp f1 f2 f3 f4 => ?_
  rw [hcl]
  obtain ⟨kA', comp', g1, g2, g3, g4⟩ := (c10.1.2 t _ (ht g)).2
  have ec : cA = g.2.2 t := Option.some.inj (f1.symm.trans g4)
  subst ec
  generalize hH1 : H.push ({ cls := g.2.2 t, slots := Array.replicate N .null, vm := .none } : Cell) = H1
  have z1 : H1.size = H.size + 1 := by rw [← hH1, Array.size_push]
  have e1 : H1[H.size]? = some (arrV (g.2.2 t) N (fun _ => .null)) := by rw [← hH1, Array.getElem?_push_size, ← arrV_new]
  have o1 : ∀ q : Nat, q < H.size → H1[q]? = H[q]? := fun q hq => by rw [← hH1, Array.getElem?_push, if_neg (Nat.ne_of_lt hq)]
  have hr : Value.ref H.size = jv_r g n := by rw [hP.1]; rfl
  rw [hr]
  refine kk hC lsA H1 locs (cells + 1) (slots + N) (hP.new z1 o1 (fun e0 he0 => ?_) (fun q hq => ⟨if_neg hq, rfl, rfl⟩)) (jv_S_new hS z1 o1) hl0 (by omega) (by omega)
  rw [jv_NS_self, jv_ent_r (t := t) rfl h3 h5] at he0
  cases he0
  show H1[g.1 + n]? = some (vp_cell _ _)
  rw [← hP.1, e1, vp_cell_q]
  rfl
theorem jv_aast {t ci N NN i q qv : Nat} {C : String} {F : u_T} {ty : Nat → FieldType} (hc : jv_cls ci C F NN ty) (ht : ∀ g : jv_G, (jv_tys g)[t]? = some (g.2.2 t, .object C)) (h3 : 2 ≤ t) (h5 : t ≤ 5) (d : decode (jb I) pc = .ok (.aastore, 1)) (hs : (sh q).1 = t + 10) (hN : (sh q).2.1 = N) (hi : i < N) (hN2 : N < 2 ^ 31) (hv : (sh qv).1 = ci + 1)
    (kk : jv_J g X I (pc + 1) ls st n (jv_US sh q i qv) V L k z) : jv_J g X I pc ls (jv_r g qv :: .int (nI i) :: jv_r g q :: st) n sh V L k z := by
  obtain ⟨p, l, e, R, s, m, args, below, meth, cd, Q⟩ := X
  intro hC lsA H locs cells slots hP hS hl0 hcc hss
  obtain ⟨c1, c2, c3, c4, c5, c6, c7, c8, c9, c10, c11, c12, c13⟩ := id hC
  have he := hP.2.2 q _ (jv_ent_r hs h3 h5)
  have hcl : (nI i).toNatClampNeg = i := nI_clamp (by omega)
  obtain ⟨r', hr', cellV, g1, g2, g3, -⟩ := hP.2.2 qv _ (jv_ent_o hv hc.2.2.2.2.2.1)
  have hcls := (c10.1.1 ci _ hc.1).2
  obtain ⟨kA, comp, k1, k2, k3, -⟩ := (c10.1.2 t _ (ht g)).2
  have hcomp : comp = g.2.1.1 ci := Option.some.inj (k3.symm.trans hcls.1)
  subst hcomp
  obtain ⟨kC, hkC, -⟩ := hcls.2
  refine W.aast c1 c2 he (fun q h => by cases h) (fun h => by cases h) k1 k2 rfl hkC ⟨nI_pos (by omega), by show _ < (arrV _ _ _).slots.size; rw [arrV_size, hcl, hN]; exact hi⟩ g1 (fun q h => by rw [g3] at h; cases h) (by rw [g2]; exact hkC) (by rw [g2]; exact va_assign hcls) rfl rfl d fun H1 e1 e2 e3 => ?_
  rw [hcl] at e1 ⊢
  refine kk hC lsA H1 _ cells slots (hP.put e2 e3 (by omega) (fun e0 he0 => ?_) (fun a ha => ⟨jv_US_other ha, rfl, rfl⟩)) (hS.put e2 e3 (Nat.le_add_right _ _)) hl0 hcc hss
  rw [jv_ent_r (t := t) (by rw [jv_US_self]; exact hs) h3 h5, jv_US_self] at he0
  cases he0
  show H1[g.1 + q]? = some (vp_cell _ _)
  rw [e1, vp_cell_q, vp_cell_q, arrV_store]
  congr 2
  funext j
  by_cases hj : j = i
  · subst hj; simp [updV, va_rf]
  · simp [updV, hj]
def jv_cpy (V : Nat → Nat → Int32) (q r n : Nat) : Nat → Nat → Int32 := fun a j => if a = r then (if j < n then V q j else V r j) else V a j
theorem jv_acopy {idx q r N M : Nat} (hl : Cond.methodLink (jo I) idx arraycopyName ∈ jv_gw) (hnat : Cond.native arraycopyName ∈ jv_gw) (hsta : Cond.static arraycopyName ∈ jv_gw) (hini : Cond.initialized "java/lang/System" ∈ jv_gw) (hlv : 2 ≤ jd I) (d : decode (jb I) pc = .ok (.invokestatic idx, 3)) (hq : (sh q).1 = 10) (hr : (sh r).1 = 10) (hqn : (sh q).2.1 = N) (hrn : (sh r).2.1 = N) (hM : M ≤ N) (hN : N < 100000) (hcat : (st.map fun v => v.category).sum ≤ 8)
    (kk : jv_J g X I (pc + 3) ls st n sh (jv_cpy V q r M) L k z) : jv_J g X I pc ls (.int (nI M) :: .int (nI 0) :: jv_r g r :: .int (nI 0) :: jv_r g q :: st) n sh V L k z := by
  obtain ⟨p, l, e, R, s, m, args, below, meth, cd, Q⟩ := X
  intro hC lsA H locs cells slots hP hS hl0 hcc hss
  obtain ⟨c1, c2, c3, c4, c5, c6, c7, c8, c9, c10, c11, c12, c13⟩ := id hC
  have h0 := hP.2.2 q _ (jv_ent_i hq)
  have h1 := hP.2.2 r _ (jv_ent_i hr)
  have hcl : (nI M).toNatClampNeg = M := nI_clamp (by omega)
  have hcz : (nI 0).toNatClampNeg = 0 := nI_clamp (by omega)
  have nn : ∀ a : Nat, a < 2 ^ 31 → (nI a).toInt = (a : Int) := fun a ha => nI_toInt ha
  intro T hT X
  have hc0 : H[g.1 + q]? = some (vp_cell (g.2.2 0) ((sh q).2.1, .inl (V q))) := h0
  have hc1 : H[g.1 + r]? = some (vp_cell (g.2.2 0) ((sh r).2.1, .inl (V r))) := h1
  obtain ⟨-, k0, hk0, cm0, hkk0⟩ := (c10.1.2 0 _ rfl).1 (sh q).2.1 (fun j => .int (V q j))
  obtain ⟨vm', X', step⟩ := X.arraycopy c1 c4 (c5 _ hl) (c5 _ hnat) (c5 _ hsta) (c5 _ hini) (src := g.1 + q) (dst := g.1 + r) (cs := vp_cell (g.2.2 0) ((sh q).2.1, .inl (V q))) (cd := vp_cell (g.2.2 0) ((sh r).2.1, .inl (V r))) (srcPos := nI 0) (destPos := nI 0) (n := nI M) (by rw [hT]; exact hc0) (by rw [hT]; exact hc1)
    (fun _ h => by cases h) (fun _ h => by cases h) (fun h => by cases h) (fun h => by cases h) hk0 hk0 hkk0 hkk0 (by simp [refKind]) (nI_pos (by omega)) (nI_pos (by omega)) (nI_pos (by omega))
    (by rw [nn 0 (by omega), nn M (by omega)]; show ¬ _ > ((arrV _ (sh q).2.1 (fun j => .int (V q j))).slots.size : Int); rw [arrV_size, hqn]; omega)
    (by rw [nn 0 (by omega), nn M (by omega)]; show ¬ _ > ((arrV _ (sh r).2.1 (fun j => .int (V r j))).slots.size : Int); rw [arrV_size, hrn]; omega)
    (fun vm₁ _ i hi => by
      have e : (vp_cell (g.2.2 0) ((sh q).2.1, .inl (V q))).slots.getD ((nI 0).toNatClampNeg + i) .null = .int (V q ((nI 0).toNatClampNeg + i)) := by
        show (arrV _ (sh q).2.1 (fun j => .int (V q j))).slots.getD _ _ = _
        rw [Array.getD_eq_getD_getElem?, arrV_read _ _ (by rw [hqn]; omega)]
        rfl
      refine ⟨?_, ?_⟩
      · rw [e]; rfl
      · rw [e]; exact trivial)
    (g := F0 m pc lsA (.int (nI M) :: .int (nI 0) :: .ref (g.1 + r) :: .int (nI 0) :: .ref (g.1 + q) :: st)) rfl (by rw [c3]; exact hl0.1) (rest := st) rfl (by rw [c2]; exact d) (by omega) (by
      show 2 * 0 + _ + _ ≤ _
      have h40 : nativeFrameWords "java/lang/System" "arraycopy" 5 ≤ 40 := by decide +kernel
      omega)
  have hlt : g.1 + r < T.heap.size := by rw [hT]; exact (Array.getElem?_eq_some_iff.mp hc1).1
  have e1 : copied (vp_cell (g.2.2 0) ((sh q).2.1, .inl (V q))) (vp_cell (g.2.2 0) ((sh r).2.1, .inl (V r))) (nI 0) (nI 0) (nI M) = vp_cell (g.2.2 0) ((sh r).2.1, .inl (va_cpy (V q) (V r) (nI 0).toNatClampNeg (nI 0).toNatClampNeg (nI M).toNatClampNeg)) := va_copied (fun z => .int z) (g.2.2 0) (g.2.2 0) (V q) (V r) (by rw [hcl, hcz, hqn]; omega)
  rw [e1] at X' step
  have hlt2 : g.1 + r < H.size := (Array.getElem?_eq_some_iff.mp hc1).1
  generalize hcell : vp_cell (g.2.2 0) ((sh r).2.1, .inl (va_cpy (V q) (V r) (nI 0).toNatClampNeg (nI 0).toNatClampNeg (nI M).toNatClampNeg)) = cell at X' step
  have hheap : ((T.setVm vm').setCell (g.1 + r) cell).heap = H.setIfInBounds (g.1 + r) cell := by rw [← hT]; rfl
  have oq : ∀ a : Nat, a ≠ g.1 + r → (H.setIfInBounds (g.1 + r) cell)[a]? = H[a]? := fun a ha => by simp [Array.getElem?_setIfInBounds, Ne.symm ha]
  have eq1 : (H.setIfInBounds (g.1 + r) cell)[g.1 + r]? = some cell := by simp [Array.getElem?_setIfInBounds, hlt2]
  have hP1 : jv_P g n sh (jv_cpy V q r M) L (H.setIfInBounds (g.1 + r) cell) := by
    refine hP.put (p := r) (by simp) oq (by omega) (fun e0 he0 => ?_) (fun a ha => ⟨rfl, by funext j; unfold jv_cpy; rw [if_neg ha], rfl⟩)
    rw [jv_ent_i hr] at he0
    cases he0
    show (H.setIfInBounds (g.1 + r) cell)[g.1 + r]? = some (vp_cell _ _)
    rw [eq1, ← hcell]
    congr 4
    funext j
    unfold jv_cpy va_cpy
    rw [if_pos rfl, hcl, hcz]
    simp
  obtain ⟨t, a1, b1⟩ := kk hC lsA (H.setIfInBounds (g.1 + r) cell) _ cells slots hP1 ⟨by simp; exact hS.1, fun a g1 g2 => by
      rw [oq a (fun e => g2 (by rw [e]; exact Nat.le_add_right _ _))]
      exact hS.2.1 a g1 g2, fun a ha => by
      rcases List.mem_append.mp ha with h | h
      · exact hS.2.2 a h
      · obtain ⟨b, -, hb⟩ := List.mem_map.mp h
        rw [← hb]
        exact Nat.le_add_right _ _⟩ hl0 hcc hss _ hheap X'
  exact ⟨t, step t a1, b1⟩
def jv_mnS (sh : Nat → jv_S) (n N K : Nat) : Nat → jv_S := fun q => if q = n then (15, N, fun i => if i < N then some (n + 1 + i) else none) else if n < q ∧ q ≤ n + N then (10, K, fun _ => none) else sh q
def jv_mnV (V : Nat → Nat → Int32) (n N : Nat) : Nat → Nat → Int32 := fun q => if n < q ∧ q ≤ n + N then (fun _ => 0) else V q
theorem jv_AB {U : State} {A A' : Array Value} (h : (Cond.arrayOver (.array .int)).before A U = true) : (Cond.arrayOver (.array .int)).before A' U = true := by
  unfold Cond.before Cond.holds at h ⊢
  simp only [Cond.value] at h ⊢
  exact h
theorem jv_mna {N K idx : Nat} (hl : Cond.classLink (jo I) idx "[[I" ∈ jv_gw) (hw : Cond.arrayClass .int ∈ jv_gw) (d : decode (jb I) pc = .ok (.multianewarray idx 2, 4)) (hN : N < 1000) (hK : K < 1000) {k2 z2 : Nat} (hk : 1 + N + k2 ≤ k) (hz : N + N * K + z2 ≤ z)
    (kk : jv_J g X I (pc + 4) ls (jv_r g n :: st) (n + 1 + N) (jv_mnS sh n N K) (jv_mnV V n N) L k2 z2) : jv_J g X I pc ls (.int (nI K) :: .int (nI N) :: st) n sh V L k z := by
  obtain ⟨p, l, e, R, s, m, args, below, meth, cd, Q⟩ := X
  intro hC lsA H locs cells slots hP hS hl0 hcc hss
  obtain ⟨c1, c2, c3, c4, c5, c6, c7, c8, c9, c10, c11, c12, c13⟩ := id hC
  have hcN : (nI N).toNatClampNeg = N := nI_clamp (by omega)
  have hcK : (nI K).toNatClampNeg = K := nI_clamp (by omega)
  have el : (Cond.classLink (jo I) idx ("[" ++ (FieldType.array .int).toString)).before args s = true := by
    have e : "[" ++ (FieldType.array .int).toString = "[[I" := by decide +kernel
    rw [e]
    exact c5 _ hl
  intro T hT Xs
  obtain ⟨vm₁, cA, comp, -, fA, fC, -, -, X', step⟩ := Xs.multianewarray2F c1 c4 el (jv_AB c10.2.2.2.2.2.2.2.1) (c5 _ hw) (g := F0 m pc lsA (.int (nI K) :: .int (nI N) :: st)) rfl (by rw [c2]; exact d) rfl (nI_pos (by omega)) (nI_pos (by omega)) (by rw [hcN]; omega) (by rw [hcK]; show K * 4 ≤ _; omega) (by rw [hcK]; omega) rfl rfl (by rw [hcN]; omega) (by rw [hcN, hcK]; omega)
  rw [hcN, hcK] at X' step
  have eA : cA = g.2.2 5 := Option.some.inj (fA.symm.trans (c10.1.2 5 _ rfl).2)
  have eC : comp = g.2.2 0 := Option.some.inj (fC.symm.trans (c10.1.2 0 _ rfl).2)
  subst eA
  subst eC
  generalize hF : Jvm.Free.Multi.fill (T.setVm vm₁) (g.2.2 5) (g.2.2 0) N K (defaultValue .int) N = F at X' step
  have hTh : (T.setVm vm₁).heap = H := hT
  obtain ⟨f1, f2, -, -⟩ := Jvm.Free.Multi.fill_facts (T.setVm vm₁) (g.2.2 5) (g.2.2 0) N K (defaultValue .int) N
  rw [hF, hTh] at f1 f2
  have hold : ∀ x : Nat, x < H.size → F.heap[x]? = H[x]? := fun x hx => by
    have := Jvm.Free.Multi.fill_old (T.setVm vm₁) (g.2.2 5) (g.2.2 0) N K (defaultValue .int) (a := x) (by rw [hTh]; exact hx) N
    rw [hF, hTh] at this
    exact this
  have hrow : ∀ j : Nat, j < N → F.heap[H.size + 1 + j]? = some (arrV (g.2.2 0) K (fun _ => .int 0)) := fun j hj => by
    have := Jvm.Free.Multi.fill_inner (T.setVm vm₁) (g.2.2 5) (g.2.2 0) N K (defaultValue .int) N j hj
    rw [hF, hTh] at this
    rw [this]
    exact congrArg some (arrV_new (g.2.2 0) K (.int 0))
  rw [vr_outer] at f2
  have hsz := hP.1
  have hP1 : jv_P g (n + 1 + N) (jv_mnS sh n N K) (jv_mnV V n N) L F.heap := by
    refine ⟨by omega, fun q hq => ?_, fun q e0 he0 => ?_⟩
    · unfold jv_mnS at hq
      by_cases h1 : q = n
      · omega
      · rw [if_neg h1] at hq
        by_cases h2 : n < q ∧ q ≤ n + N
        · omega
        · rw [if_neg h2] at hq
          have := hP.2.1 q hq
          omega
    · by_cases h1 : q = n
      · subst h1
        have e1 : jv_mnS sh q N K q = (15, N, fun i => if i < N then some (q + 1 + i) else none) := if_pos rfl
        rw [jv_ent_r (t := 5) (by rw [e1]) (by omega) (by omega), e1] at he0
        cases he0
        show F.heap[g.1 + q]? = some (vp_cell _ _)
        rw [← hsz, f2, vp_cell_q]
        congr 2
        funext j
        by_cases hj : j < N
        · rw [if_pos hj]
          show va_rf (some (H.size + 1 + j)) = va_rf (Option.map _ (if j < N then some (q + 1 + j) else none))
          rw [if_pos hj]
          show va_rf (some (H.size + 1 + j)) = va_rf (some (g.1 + (q + 1 + j)))
          rw [show H.size + 1 + j = g.1 + (q + 1 + j) by omega]
        · rw [if_neg hj]
          show va_rf none = va_rf (Option.map _ (if j < N then some (q + 1 + j) else none))
          rw [if_neg hj]
          rfl
      · by_cases h2 : n < q ∧ q ≤ n + N
        · have e1 : jv_mnS sh n N K q = (10, K, fun _ => none) := by unfold jv_mnS; rw [if_neg h1, if_pos h2]
          have e2 : jv_mnV V n N q = fun _ => 0 := by unfold jv_mnV; rw [if_pos h2]
          rw [jv_ent_i (by rw [e1]), e1, e2] at he0
          cases he0
          show F.heap[g.1 + q]? = some (vp_cell _ _)
          have := hrow (q - n - 1) (by omega)
          rw [show H.size + 1 + (q - n - 1) = g.1 + q by omega] at this
          rw [this, vp_cell_i]
        · have e1 : jv_mnS sh n N K q = sh q := by unfold jv_mnS; rw [if_neg h1, if_neg h2]
          have e2 : jv_mnV V n N q = V q := by unfold jv_mnV; rw [if_neg h2]
          rw [e1, e2] at he0
          have := hP.2.2 q e0 he0
          exact this.kept (hold _ this.lt)
  obtain ⟨t, a1, b1⟩ := kk hC lsA F.heap locs (cells + 1 + N) (slots + N + N * K) hP1 ⟨by have := hS.1; omega, fun q g1 g2 => (hold q (Nat.lt_of_lt_of_le g1 hS.1)).trans (hS.2.1 q g1 g2), hS.2.2⟩ hl0 (by omega) (by omega) F rfl X'
  refine ⟨t, step t ?_, b1⟩
  have er : Value.ref T.heap.size = jv_r g n := by rw [hT, hsz]; rfl
  rw [er]
  exact a1
theorem jv_nmI {U : State} {H : Heap} (h : jv_E g U H) : U.vm.findClass "[I" = some (g.2.2 0) := (h.1.2 0 _ rfl).2
/-- a row of rows of numbers -/
theorem jv_anewA {N idx : Nat} (hl : Cond.classLink (jo I) idx "[I" ∈ jv_gw) (d : decode (jb I) pc = .ok (.anewarray idx, 3)) (hN : N < 100000) {k2 z2 : Nat} (hk : 1 + k2 ≤ k) (hz : N + z2 ≤ z)
    (kk : jv_J g X I (pc + 3) ls (jv_r g n :: st) (n + 1) (jv_NS sh n (15, N, fun _ => none)) V L k2 z2) : jv_J g X I pc ls (.int (nI N) :: st) n sh V L k z := by
  obtain ⟨p, l, e, R, s, m, args, below, meth, cd, Q⟩ := X
  intro hC lsA H locs cells slots hP hS hl0 hcc hss
  obtain ⟨c1, c2, c3, c4, c5, c6, c7, c8, c9, c10, c11, c12, c13⟩ := id hC
  have hcl : (nI N).toNatClampNeg = N := nI_clamp (by omega)
  have el : (Cond.classLink (jo I) idx (FieldType.array .int).toString).before args s = true := by
    have e : (FieldType.array .int).toString = "[I" := by decide +kernel
    rw [e]
    exact c5 _ hl
  refine W.anewA (t := .int) c1 c2 c4 el (jv_AB c10.2.2.2.2.2.2.2.1) rfl d rfl (nI_pos (by omega)) (by rw [hcl]; omega) (by omega) (by rw [hcl]; omega) fun cA kA comp f1 f2 f3 f4 => ?_
  rw [hcl]
  have ec : cA = g.2.2 5 := Option.some.inj (f1.symm.trans (c10.1.2 5 _ rfl).2)
  subst ec
  generalize hH1 : H.push ({ cls := g.2.2 5, slots := Array.replicate N .null, vm := .none } : Cell) = H1
  have z1 : H1.size = H.size + 1 := by rw [← hH1, Array.size_push]
  have e1 : H1[H.size]? = some (arrV (g.2.2 5) N (fun _ => .null)) := by rw [← hH1, Array.getElem?_push_size, ← arrV_new]
  have o1 : ∀ q : Nat, q < H.size → H1[q]? = H[q]? := fun q hq => by rw [← hH1, Array.getElem?_push, if_neg (Nat.ne_of_lt hq)]
  have hr : Value.ref H.size = jv_r g n := by rw [hP.1]; rfl
  rw [hr]
  refine kk hC lsA H1 locs (cells + 1) (slots + N) (hP.new z1 o1 (fun e0 he0 => ?_) (fun q hq => ⟨if_neg hq, rfl, rfl⟩)) (jv_S_new hS z1 o1) hl0 (by omega) (by omega)
  rw [jv_NS_self, jv_ent_r (t := 5) rfl (by omega) (by omega)] at he0
  cases he0
  show H1[g.1 + n]? = some (vp_cell _ _)
  rw [← hP.1, e1, vp_cell_q]
  rfl
theorem jv_aastA {N i q qv : Nat} (d : decode (jb I) pc = .ok (.aastore, 1)) (hs : (sh q).1 = 15) (hN : (sh q).2.1 = N) (hi : i < N) (hN2 : N < 2 ^ 31) (hv : (sh qv).1 = 10)
    (kk : jv_J g X I (pc + 1) ls st n (jv_US sh q i qv) V L k z) : jv_J g X I pc ls (jv_r g qv :: .int (nI i) :: jv_r g q :: st) n sh V L k z := by
  obtain ⟨p, l, e, R, s, m, args, below, meth, cd, Q⟩ := X
  intro hC lsA H locs cells slots hP hS hl0 hcc hss
  obtain ⟨c1, c2, c3, c4, c5, c6, c7, c8, c9, c10, c11, c12, c13⟩ := id hC
  have he := hP.2.2 q _ (jv_ent_r (t := 5) hs (by omega) (by omega))
  have hcl : (nI i).toNatClampNeg = i := nI_clamp (by omega)
  have g1 : H[g.1 + qv]? = some (vp_cell (g.2.2 0) ((sh qv).2.1, .inl (V qv))) := hP.2.2 qv _ (jv_ent_i hv)
  obtain ⟨-, kA, k1, comp, k2⟩ := (c10.1.2 5 _ rfl).1 (sh q).2.1 (fun j => va_rf (((sh q).2.2 j).map (fun q => g.1 + q)))
  have hao : (Cond.arrayOver (.array .int)).before args s = true := jv_AB c10.2.2.2.2.2.2.2.1
  obtain ⟨comp', cA', kA', hcomp', -, hkA', hkindA', hnameA'⟩ := arrayOverA_spec (o := none) hao
  have ec : cA' = g.2.2 5 := Option.some.inj (hnameA'.symm.trans (c10.1.2 5 _ rfl).2)
  subst ec
  have hcomp : comp' = g.2.2 0 := Option.some.inj (hcomp'.symm.trans (c10.1.2 0 _ rfl).2)
  subst hcomp
  obtain ⟨-, kV, k3, compV, k4⟩ := (c10.1.2 0 _ rfl).1 (sh qv).2.1 (fun j => .int (V qv j))
  refine W.aast c1 c2 he (fun q h => by cases h) (fun h => by cases h) hkA' hkindA' rfl k3 ⟨nI_pos (by omega), by show _ < (arrV _ _ _).slots.size; rw [arrV_size, hcl, hN]; exact hi⟩ g1 (fun q h => by cases h) k3 (va_asg _ _) rfl rfl d fun H1 e1 e2 e3 => ?_
  rw [hcl] at e1 ⊢
  refine kk hC lsA H1 _ cells slots (hP.put e2 e3 (by omega) (fun e0 he0 => ?_) (fun a ha => ⟨jv_US_other ha, rfl, rfl⟩)) (hS.put e2 e3 (Nat.le_add_right _ _)) hl0 hcc hss
  rw [jv_ent_r (t := 5) (by rw [jv_US_self]; exact hs) (by omega) (by omega), jv_US_self] at he0
  cases he0
  show H1[g.1 + q]? = some (vp_cell _ _)
  rw [e1, vp_cell_q, vp_cell_q, arrV_store]
  congr 2
  funext j
  by_cases hj : j = i
  · subst hj; simp [updV, va_rf]
  · simp [updV, hj]
/-- a row of numbers taken twice -/
theorem jv_clone {N idx q : Nat} (hlk : Cond.methodLink (jo I) idx ⟨"[I", "clone", "()Ljava/lang/Object;"⟩ ∈ jv_gw) (hsame : Cond.sameMethod "[I" "java/lang/Object" "clone" "()Ljava/lang/Object;" ∈ jv_gw) (hnat : Cond.native ⟨"java/lang/Object", "clone", "()Ljava/lang/Object;"⟩ ∈ jv_gw) (hin : Cond.instanceMethod ⟨"java/lang/Object", "clone", "()Ljava/lang/Object;"⟩ ∈ jv_gw) (hsel : Cond.selects "[I" ⟨"[I", "clone", "()Ljava/lang/Object;"⟩ ⟨"java/lang/Object", "clone", "()Ljava/lang/Object;"⟩ ∈ jv_gw) (hca : Cond.castable "[I" "java/lang/Cloneable" ∈ jv_oth) (hlv : 1 ≤ jd I) (d : decode (jb I) pc = .ok (.invokevirtual idx, 3)) (hs : (sh q).1 = 10) (hN : (sh q).2.1 = N) (hcat : (st.map fun v => v.category).sum ≤ 8) {k2 z2 : Nat} (hk : 1 + k2 ≤ k) (hz : N + z2 ≤ z)
    (kk : jv_J g X I (pc + 3) ls (jv_r g n :: st) (n + 1) (jv_NS sh n (10, N, fun _ => none)) (jv_NV V n (V q)) L k2 z2) : jv_J g X I pc ls (jv_r g q :: st) n sh V L k z := by
  obtain ⟨p, l, e, R, s, m, args, below, meth, cd, Q⟩ := X
  intro hC lsA H locs cells slots hP hS hl0 hcc hss
  obtain ⟨c1, c2, c3, c4, c5, c6, c7, c8, c9, c10, c11, c12, c13⟩ := id hC
  have hnm := jv_nmI c10
  have he : H[g.1 + q]? = some (vp_cell (g.2.2 0) ((sh q).2.1, .inl (V q))) := hP.2.2 q _ (jv_ent_i hs)
  obtain ⟨c0, t0', f1, f2, f3⟩ := Cond.castable_spec (va_Nw.use (A := args) rfl (c10.2.2.2.2.2.2.2.2.2.1 _ hca))
  cases hnm.symm.trans f1
  intro T hT X
  obtain ⟨-, kA, hkA, comp, hkind⟩ := State.isArrayOf_alike X.warmed.alike ((c10.1.2 0 _ rfl).1 0 (fun _ => .null))
  obtain ⟨-, kS, hkS, compS, hkindS⟩ := (c10.1.2 0 _ rfl).1 0 (fun _ => .null)
  have hsz : (vp_cell (g.2.2 0) ((sh q).2.1, .inl (V q))).slots.size = N := by rw [vp_cell_i, arrV_size, hN]
  obtain ⟨vm', X', stp⟩ := X.cloneArray c1 c4 (c5 _ hlk) (c5 _ hsame) (c5 _ hnat) (c5 _ hin) (c5 _ hsel) (a := g.1 + q) (cell := vp_cell (g.2.2 0) ((sh q).2.1, .inl (V q))) (by rw [hT]; exact he) (fun k h => by cases h) (fun h => by cases h) hnm f2 f3
    (fun i v hv => by
      have hk' : T.vm.classes[g.2.2 0]? = some kA := hkA
      have hf : fits .int v = true := va_fit (F := fun j => .int (V q j)) (fun _ _ => rfl) i v hv
      have hcl : (vp_cell (g.2.2 0) ((sh q).2.1, .inl (V q))).cls = g.2.2 0 := rfl
      rw [hcl]
      simpa [State.fitsSlot, State.slotType?, hk', hkind] using hf)
    (g := F0 m pc lsA (.ref (g.1 + q) :: st)) rfl (by rw [c3]; exact hl0.1) rfl (by rw [c2]; exact d) (by omega) (by show 2 * 0 + _ + 14 ≤ _; omega) (by omega) (by rw [hsz]; omega) (hloader := Vm.clonesLoader_of_array hkS hkindS)
  have hcellE : ({ cls := (vp_cell (g.2.2 0) ((sh q).2.1, .inl (V q))).cls, slots := (vp_cell (g.2.2 0) ((sh q).2.1, .inl (V q))).slots } : Cell) = vp_cell (g.2.2 0) ((sh q).2.1, .inl (V q)) := rfl
  rw [hcellE, hsz] at X'
  generalize hH1 : H.push (vp_cell (g.2.2 0) ((sh q).2.1, .inl (V q))) = H1
  have z1 : H1.size = H.size + 1 := by rw [← hH1, Array.size_push]
  have e1 : H1[H.size]? = some (vp_cell (g.2.2 0) ((sh q).2.1, .inl (V q))) := by rw [← hH1, Array.getElem?_push_size]
  have o1 : ∀ q : Nat, q < H.size → H1[q]? = H[q]? := fun q hq => by rw [← hH1, Array.getElem?_push, if_neg (Nat.ne_of_lt hq)]
  have hP1 : jv_P g (n + 1) (jv_NS sh n (10, N, fun _ => none)) (jv_NV V n (V q)) L H1 := hP.new z1 o1 (fun e0 he0 => by
    rw [jv_NS_self, jv_NV_self, jv_ent_i rfl] at he0
    cases he0
    show H1[g.1 + n]? = some (vp_cell _ _)
    rw [← hP.1, e1, hN]) (fun q hq => ⟨if_neg hq, if_neg hq, rfl⟩)
  obtain ⟨t, b1, b2⟩ := kk hC lsA H1 locs (cells + 1) (slots + N) hP1 (jv_S_new hS z1 o1) hl0 (by omega) (by omega)
    ((T.setVm vm').pushCell (vp_cell (g.2.2 0) ((sh q).2.1, .inl (V q)))) (by rw [← hH1, ← hT]; rfl) X'
  refine ⟨t, stp t ?_, b2⟩
  rw [hcellE, hT, hP.1]
  exact b1
theorem jv_castA {idx q : Nat} (hl : Cond.classLink (jo I) idx "[I" ∈ jv_gw) (d : decode (jb I) pc = .ok (.checkcast idx, 3)) (hs : (sh q).1 = 10)
    (kk : jv_J g X I (pc + 3) ls (jv_r g q :: st) n sh V L k z) : jv_J g X I pc ls (jv_r g q :: st) n sh V L k z := by
  obtain ⟨p, l, e, R, s, m, args, below, meth, cd, Q⟩ := X
  intro hC lsA H locs cells slots hP hS hl0 hcc hss
  have he := hP.2.2 q _ (jv_ent_i hs)
  obtain ⟨c1, c2, c3, c4, c5, c6, c7, c8, c9, c10, c11, c12, c13⟩ := id hC
  exact va_castA c1 c2 c4 (c5 _ hl) (jv_P.one he) 0 rfl (jv_nmI c10) d (kk hC lsA H locs cells slots hP hS hl0 hcc hss)
end JVK
