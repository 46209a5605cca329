/-! ===== contracts and calls over the flat machine ===== -/
theorem jv_AA {u U : State} {A : Array Value} (hvm : u.vm.Alike U.vm) (h : (Cond.arrayOver (.array .int)).before A u = true) : (Cond.arrayOver (.array .int)).before #[] U = true := by
  have h1 : (Cond.arrayOver (.array .int)).before A (u.setVm U.vm) = true := by rw [Cond.arrayOver_setVmC hvm (.array .int)]; exact h
  unfold Cond.before Cond.holds at h1 ⊢
  simp only [Cond.value] at h1 ⊢
  exact h1
theorem jv_E.go {g : jv_G} {u U : State} {H : Heap} (hvm : u.vm.Alike U.vm) (hs : ∀ q ∈ jv_strs, (∃ sa, vk_R q.1 q.2.1 q.2.2 sa u) → ∃ sa, vk_R q.1 q.2.1 q.2.2 sa U) (hn : ∀ w ∈ jv_nst, va_Nw w u → va_Nw w U) (h : jv_E g u H) : jv_E g U H := by
  obtain ⟨a1, a2, a3, a4, a5, a6, a7, a8, a9, a10, a11⟩ := h
  exact ⟨va_K.moved hvm a1, a2.moved hvm, a3.moved hvm, a4, fun q hq => hs q hq (a5 q hq), ⟨⟨a6.1.1.moved hvm, a6.1.2.moved hvm⟩, ⟨a6.2.1.moved hvm, a6.2.2⟩⟩, a7.moved hvm, jv_AA hvm a8, fun w hw => hn w hw (a9 w hw), fun w hw => jv_osw hw hvm (a10 w hw), fun E hE F hF ne hi => (a11 E hE F hF ne hi).moved hvm⟩
theorem jv_E.same {g : jv_G} {u U : State} {H : Heap} (hv : U.vm = u.vm) (h : jv_E g u H) : jv_E g U H := by
  refine jv_E.go (by rw [hv]; exact Vm.Alike.refl _) (fun q _ hq => ?_) (fun w hw h => jv_nsv hw hv.symm h) h
  obtain ⟨sa, hsa⟩ := hq
  exact ⟨sa, vk_R.same hv hsa⟩
theorem jv_E.warm {g : jv_G} {s U : State} {H : Heap} (hW : s.WarmedH U.vm) (h : jv_E g s H) : jv_E g U H := by
  refine jv_E.go hW.alike (fun q _ hq => ?_) (fun w hw h => jv_nsw hw hW h) h
  obtain ⟨sa, hsa⟩ := hq
  exact ⟨sa, vk_R.warm hW hsa⟩
theorem jv_E.kept {g : jv_G} {U : State} {H H1 : Heap} {locs : List Loc} (hS : va_S (fun q => g.1 ≤ q) H H1 locs) (h : jv_E g U H) : jv_E g U H1 := by
  obtain ⟨a1, a2, a3, a4, a5, a6, a7⟩ := h
  exact ⟨a1, a2.kept hS.2.1, a3.kept hS.2.1, Nat.le_trans a4 hS.1, a5, ⟨a6.1, ⟨a6.2.1.kept (hS.2.1 _ (Nat.lt_of_lt_of_le a6.2.2.1 a4) (Nat.not_le.mpr a6.2.2.1)), a6.2.2⟩⟩, a7⟩
def jv_ws (I : jv_I) : List Cond := Cond.code (jy I) (jb I) (jn I) (jr I) :: jv_gw
def jv_wsW (I : jv_I) : List Cond := Cond.codeWith (jy I) (jb I) (jn I) (jr I) (jh I) :: jv_gw
def jv_rm (d c s : Nat) : Room := { frames := d, cells := c, slots := s, locals := 40 * d }
def jv_Pc (g : jv_G) (av : List Value) (n : Nat) (sh : Nat → jv_S) (V : Nat → Nat → Int32) (L : Nat → Nat → Int64) : Array Value → State → Prop := fun v U => v = av.toArray ∧ jv_E g U U.heap ∧ jv_P g n sh V L U.heap
theorem jv_Pc.blind {g : jv_G} {av : List Value} {n : Nat} {sh : Nat → jv_S} {V : Nat → Nat → Int32} {L : Nat → Nat → Int64} : FrameBlind (jv_Pc g av n sh V L) := fun a U f mk h => ⟨h.1, jv_E.same (u := U) (U := U.calling f mk a) rfl h.2.1, h.2.2⟩
theorem jv_good {ws : List Cond} (h : ∀ w ∈ ws, w ∈ jv_gw) : GoodIn jv_gw ws := fun w hw => ⟨h w hw, jv_gwg (h w hw)⟩
/-- what a method of the tables is -/
def jv_mok (I : jv_I) : Prop := jh I = [] ∧ plainName (jy I).cls = true ∧ (jy I).cls = jo I ∧ Cond.code (jy I) (jb I) (jn I) (jr I) ∈ jv_gw ∧ Cond.initialized (jo I) ∈ jv_gw ∧ ((jo I) ≠ "java/lang/invoke/MethodHandle" ∧ (jo I) ≠ "java/lang/invoke/VarHandle") ∧ jn I ≤ 21
def jv_mokW (I : jv_I) : Prop := plainName (jy I).cls = true ∧ (jy I).cls = jo I ∧ Cond.codeWith (jy I) (jb I) (jn I) (jr I) (jh I) ∈ jv_gw ∧ Cond.initialized (jo I) ∈ jv_gw ∧ ((jo I) ≠ "java/lang/invoke/MethodHandle" ∧ (jo I) ≠ "java/lang/invoke/VarHandle") ∧ jn I ≤ 21
theorem jv_met {l : Launch} {g : jv_G} {I : jv_I} {T : jv_T} {av : List Value} {ls : List (Option Value)} {n : Nat} {sh : Nat → jv_S} {V : Nat → Nat → Int32} {L : Nat → Nat → Int64} {k z : Nat} (hst : l.stackTraces = false) (hI : jv_mok I) (hsl : (lg_sl av).length ≤ jn I) (hls : ∀ q ∈ jv_lst ls, q ∈ lv_args 0 av)
    (body : ∀ X, jv_M g X T → jv_J g X I 0 ls [] n sh V L k z) : vx_Met l (jy I) (jv_ws I) (jv_rm (jd I) k z) (jv_Pc g av n sh V L) (jv_Q g T) (jv_XC g T) k z (fun q => g.1 ≤ q) := by
  obtain ⟨hh, hpl, hoc, -⟩ := hI
  refine vx_ofW (cc := jb I) (maxL := jn I) (ret := jr I) hpl rfl ?_
  intro p e s m args below meth c s₁ B hml hex hv
  obtain ⟨rfl, hE, hP⟩ := hv
  have hts := atoms_spec (ws := jv_ws I) B.pre
  have hown : s.vm.findClass (jo I) = some m.cls := by rw [← hoc]; exact findClass_of_methodNamed B.named
  have htab : c.exceptionTable.toList = tableOf (jh I) := by
    rw [hh]
    cases hq : c.exceptionTable.toList with
    | nil => rfl
    | cons x xs => exact (hex x (by rw [hq]; exact List.mem_cons_self)).elim
  have hl := lv_entry av (n := jn I) hsl
  rw [lg_entry_eq]
  exact body (p, l, e, (headSpec (jv_ws I) (jv_rm (jd I) k z)).room, s, m, av.toArray, below, meth, c, _) rfl ⟨B.exec, B.bytes, hml, hown, fun w hw => hts w (List.mem_cons_of_mem _ hw), B.returns, B.notSynchronized, (name_of_methodNamed B.named B.method).1, htab, hE, hst, Nat.le_refl _, Nat.le_refl _⟩ _ s.heap [] 0 0 hP va_S.rf (jv_has hl hls) (Nat.le_of_eq (Nat.zero_add _)) (Nat.le_of_eq (Nat.zero_add _))
theorem jv_metW {l : Launch} {g : jv_G} {I : jv_I} {T : jv_T} {av : List Value} {ls : List (Option Value)} {n : Nat} {sh : Nat → jv_S} {V : Nat → Nat → Int32} {L : Nat → Nat → Int64} {k z : Nat} (hst : l.stackTraces = false) (hI : jv_mokW I) (hsl : (lg_sl av).length ≤ jn I) (hls : ∀ q ∈ jv_lst ls, q ∈ lv_args 0 av)
    (body : ∀ X, jv_M g X T → jv_J g X I 0 ls [] n sh V L k z) : vx_Met l (jy I) (jv_wsW I) (jv_rm (jd I) k z) (jv_Pc g av n sh V L) (jv_Q g T) (jv_XC g T) k z (fun q => g.1 ≤ q) := by
  obtain ⟨hpl, hoc, -⟩ := hI
  refine vx_ofWH (cc := jb I) (maxL := jn I) (ret := jr I) (hh := jh I) hpl rfl ?_
  intro p e s m args below meth c s₁ B hml hv
  obtain ⟨rfl, hE, hP⟩ := hv
  have hts := atoms_spec (ws := jv_wsW I) B.pre
  have hown : s.vm.findClass (jo I) = some m.cls := by rw [← hoc]; exact findClass_of_methodNamed B.named
  have htab : c.exceptionTable.toList = tableOf (jh I) := vx_table (x := jy I) B (hts _ List.mem_cons_self)
  have hl := lv_entry av (n := jn I) hsl
  rw [lg_entry_eq]
  exact body (p, l, e, (headSpec (jv_wsW I) (jv_rm (jd I) k z)).room, s, m, av.toArray, below, meth, c, _) rfl ⟨B.exec, B.bytes, hml, hown, fun w hw => hts w (List.mem_cons_of_mem _ hw), B.returns, B.notSynchronized, (name_of_methodNamed B.named B.method).1, htab, hE, hst, Nat.le_refl _, Nat.le_refl _⟩ _ s.heap [] 0 0 hP va_S.rf (jv_has hl hls) (Nat.le_of_eq (Nat.zero_add _)) (Nat.le_of_eq (Nat.zero_add _))
/-- an exception q of class E stands over the frame -/
def jv_Th (g : jv_G) (X : jv_X) (I : jv_I) (pc : Nat) (ls : List (Option Value)) (rest : List Value) (E : String) (n : Nat) (sh : Nat → jv_S) (V : Nat → Nat → Int32) (L : Nat → Nat → Int64) (k z : Nat) : Prop := match X with
  | (p, l, e, R, s, m, args, below, meth, c, Q) => jv_C g (p, l, e, R, s, m, args, below, meth, c, Q) I → ∀ (lsA : Array Slot) (H : Heap) (locs : List Loc) (cells slots : Nat) (q : Addr) (ce : Cell), jv_P g n sh V L H → va_S (fun q => g.1 ≤ q) s.heap H locs → lv_has lsA (jn I) (jv_lst ls) → cells + k ≤ R.cells → slots + z ≤ R.slots →
      H[q]? = some ce → ce.vm = .none → s.vm.findClass E = some ce.cls → vx_W p l e R s m args below meth c H locs cells slots Q (F0 m pc lsA rest) q
section JVC
variable {g : jv_G} {X : jv_X} {I I' : jv_I} {pc n n1 : Nat} {ls ls' : List (Option Value)} {st st0 rest : List Value} {sh : Nat → jv_S} {V : Nat → Nat → Int32} {L : Nat → Nat → Int64} {k z k' z' k2 z2 : Nat} {T T' : jv_T}
theorem jv_cont {p : Program} {l : Launch} {e : Env} {R : Room} {s : State} {m : MethodId} {args : Array Value} {below : List Frame} {meth : Method} {c : Code} {Q : State → Prop} {H : Heap} {locs : List Loc} {cells slots : Nat} {lsA : Array Slot} {a : Array Value}
    (hr : vx_Run p l e R s m args below meth c H locs cells slots k' z' (F0 m pc lsA st0) rest (jv_Q g T' a) (jv_XC g T') (fun q => g.1 ≤ q)) (hC : jv_C g (p, l, e, R, s, m, args, below, meth, c, Q) I) (hS : va_S (fun q => g.1 ≤ q) s.heap H locs) (hl : lv_has lsA (jn I) (jv_lst ls))
    (hc : cells + k ≤ R.cells) (hs : slots + z ≤ R.slots) (hk : k' + k2 ≤ k) (hz : z' + z2 ≤ z)
    (kk : ∀ v n1 sh1 V1 L1, T' (.inl v) n1 sh1 V1 L1 → jv_J g (p, l, e, R, s, m, args, below, meth, c, Q) I (pc + 3) ls (v.toList ++ rest) n1 sh1 V1 L1 k2 z2)
    (kx : ∀ E n1 sh1 V1 L1, T' (.inr E) n1 sh1 V1 L1 → jv_Th g (p, l, e, R, s, m, args, below, meth, c, Q) I pc ls rest E n1 sh1 V1 L1 k2 z2) :
    W p l e R s m args below meth c H locs cells slots Q (F0 m pc lsA st0) := by
  intro T hT X
  rcases hr T hT X with ⟨v, st₀, t, T1, L1, h0, X', hL, e1, e2, ⟨v', n1, sh1, V1, M1, hv, hT', hP1, hF⟩, stp⟩ | ⟨q, st₀, t, T1, L1, E, ce, h0, X', hL, e1, e2, ⟨n1, sh1, V1, M1, hT', hP1, hF⟩, hce, hcv, hcl, stp⟩
  · cases hv
    obtain ⟨-, -, hS1⟩ := vx_keep h0 e1 hS (fun _ _ h => h) (fun _ h => h) hL hF
    obtain ⟨t2, a1, b1⟩ := kk v n1 sh1 V1 M1 hT' hC lsA T1.heap (locs ++ L1) (cells + k') (slots + z') (by rw [e1]; exact hP1) hS1 hl (by omega) (by omega) T1 rfl X'
    exact ⟨t2, stp t2 a1, b1⟩
  · obtain ⟨-, -, hS1⟩ := vx_keep h0 e1 hS (fun _ _ h => h) (fun _ h => h) hL hF
    obtain ⟨t2, a1, b1⟩ := kx E n1 sh1 V1 M1 hT' hC lsA T1.heap (locs ++ L1) (cells + k') (slots + z') q ce (by rw [e1]; exact hP1) hS1 hl (by omega) (by omega) (by rw [e1]; exact hce) hcv hcl T1 rfl X'
    exact ⟨t2, stp.trans a1, b1⟩
theorem jv_pre {s : State} {H : Heap} {locs : List Loc} {av : List Value} (hE : jv_E g s s.heap) (hS : va_S (fun q => g.1 ≤ q) s.heap H locs) (hP : jv_P g n sh V L H) : ∀ U : State, U.heap = H → s.WarmedH U.vm → jv_Pc g av n sh V L av.toArray U := by
  intro U hU hW
  refine ⟨rfl, ?_, by rw [hU]; exact hP⟩
  rw [hU]
  exact jv_E.warm hW (jv_E.kept hS hE)
theorem jv_recv {s : State} {H : Heap} {c N q : Nat} {C : String} {F : u_T} {ty : Nat → FieldType} (hK : va_K g.2.1 vwCl (jv_tys g) s) (hP : jv_P g n sh V L H) (hc : jv_cls c C F N ty) (hs : (sh q).1 = c + 1) : ∃ cell : Cell, H[g.1 + q]? = some cell ∧ cell.vm.isStatics = false ∧ s.vm.findClass C = some cell.cls :=
  va_recv (q0 := 0) hK (jv_P.one (hP.2.2 q _ (jv_ent_o hs hc.2.2.2.2.2.1))) hc.1 rfl
theorem jv_callV {c N q : Nat} {C : String} {F : u_T} {ty : Nat → FieldType} {idx na : Nat} {As : List Value} (hI : jv_mok I') (hlk : Cond.methodLink (jo I) idx (jy I') ∈ jv_gw) (hin : Cond.instanceMethod (jy I') ∈ jv_gw) (hse : Cond.selects (jo I') (jy I') (jy I') ∈ jv_gw) (hna : (parseMethodDescriptor (jy I').desc).map (fun d => d.parameters.length) = some na) (hlv : jd I' + 1 ≤ jd I) (d : decode (jb I) pc = .ok (.invokevirtual idx, 3)) (hc : jv_cls c C F N ty) (hco : jo I' = C) (hs : (sh q).1 = c + 1) (hAs : As.length = na) (hst0 : st0 = As.reverse ++ jv_r g q :: rest) (hcat : (rest.map fun v => v.category).sum ≤ 8) (hsl : (lg_sl (jv_r g q :: As)).length ≤ jn I') (hls : ∀ x ∈ jv_lst ls', x ∈ lv_args 0 (jv_r g q :: As))
    (body : ∀ X', jv_M g X' T' → jv_J g X' I' 0 ls' [] n sh V L k' z') (hk : k' + k2 ≤ k) (hz : z' + z2 ≤ z)
    (kk : ∀ v n1 sh1 V1 L1, T' (.inl v) n1 sh1 V1 L1 → jv_J g X I (pc + 3) ls (v.toList ++ rest) n1 sh1 V1 L1 k2 z2)
    (kx : ∀ E n1 sh1 V1 L1, T' (.inr E) n1 sh1 V1 L1 → jv_Th g X I pc ls rest E n1 sh1 V1 L1 k2 z2) : jv_J g X I pc ls st0 n sh V L k z := by
  obtain ⟨p, l, e, R, s, m, args, below, meth, cd, Q⟩ := X
  intro hC lsA H locs cells slots hP hS hl0 hcc hss
  obtain ⟨c1, c2, c3, c4, c5, c6, c7, c8, c9, c10, c11, c12, c13⟩ := id hC
  have hM := jv_met (l := l) c11 hI hsl hls body
  obtain ⟨i1, i2, i3, i4, i5, i6, i7⟩ := hI
  have hR : (jv_rm (jd I') k' z').frames + 1 ≤ R.frames ∧ 8 + (jn I' + 11) + (jv_rm (jd I') k' z').locals ≤ R.locals := ⟨by show jd I' + 1 ≤ _; omega, by show 8 + (jn I' + 11) + 40 * jd I' ≤ _; omega⟩
  subst hst0
  have hG : GoodIn jv_gw (wsV (jo I) idx (jo I') (jy I') (jv_ws I')) := jv_good (by
    unfold wsV jv_ws
    intro w hw
    simp only [List.mem_append, List.mem_cons, List.not_mem_nil, or_false] at hw
    rcases hw with (rfl | rfl | rfl | rfl) | (rfl | hw)
    · exact hlk
    · exact hin
    · exact hse
    · exact i5
    · exact i4
    · exact hw)
  have cw := cwV (R := R) (rm := jv_rm (jd I') k' z') (mc := k') (ms := z') na c5 hG rfl rfl rfl ⟨i3, by rw [i3]; exact i6.1, by rw [i3]; exact i6.2, hna⟩ hR
  have hp : PreV s H (jo I') (g.1 + q) (jv_Pc g (jv_r g q :: As) n sh V L) As := ⟨jv_Pc.blind, by rw [hco]; exact jv_recv c10.1 hP hc hs, jv_pre c10 hS hP⟩
  exact jv_cont (vx_runV ⟨c1, c2, c3, c4, c5⟩ hM cw hp rfl hAs hl0.1 rfl (lv_room hcat) d ⟨by omega, by omega⟩) hC hS hl0 hcc hss hk hz kk kx
theorem jv_callVN {c N q : Nat} {C : String} {F : u_T} {ty : Nat → FieldType} {idx na : Nat} {As : List Value} (hI : jv_mok I') (hlk : Cond.methodLinkNest (jo I) idx (jy I') "RumourPipes" ∈ jv_nst) (hin : Cond.instanceMethod (jy I') ∈ jv_gw) (hse : Cond.selects (jo I') (jy I') (jy I') ∈ jv_gw) (hna : (parseMethodDescriptor (jy I').desc).map (fun d => d.parameters.length) = some na) (hlv : jd I' + 1 ≤ jd I) (d : decode (jb I) pc = .ok (.invokevirtual idx, 3)) (hc : jv_cls c C F N ty) (hco : jo I' = C) (hs : (sh q).1 = c + 1) (hAs : As.length = na) (hst0 : st0 = As.reverse ++ jv_r g q :: rest) (hcat : (rest.map fun v => v.category).sum ≤ 8) (hsl : (lg_sl (jv_r g q :: As)).length ≤ jn I') (hls : ∀ x ∈ jv_lst ls', x ∈ lv_args 0 (jv_r g q :: As))
    (body : ∀ X', jv_M g X' T' → jv_J g X' I' 0 ls' [] n sh V L k' z') (hk : k' + k2 ≤ k) (hz : z' + z2 ≤ z)
    (kk : ∀ v n1 sh1 V1 L1, T' (.inl v) n1 sh1 V1 L1 → jv_J g X I (pc + 3) ls (v.toList ++ rest) n1 sh1 V1 L1 k2 z2)
    (kx : ∀ E n1 sh1 V1 L1, T' (.inr E) n1 sh1 V1 L1 → jv_Th g X I pc ls rest E n1 sh1 V1 L1 k2 z2) : jv_J g X I pc ls st0 n sh V L k z := by
  obtain ⟨p, l, e, R, s, m, args, below, meth, cd, Q⟩ := X
  intro hC lsA H locs cells slots hP hS hl0 hcc hss
  obtain ⟨c1, c2, c3, c4, c5, c6, c7, c8, c9, c10, c11, c12, c13⟩ := id hC
  have hM := jv_met (l := l) c11 hI hsl hls body
  obtain ⟨i1, i2, i3, i4, i5, i6, i7⟩ := hI
  have hR : (jv_rm (jd I') k' z').frames + 1 ≤ R.frames ∧ 8 + (jn I' + 11) + (jv_rm (jd I') k' z').locals ≤ R.locals := ⟨by show jd I' + 1 ≤ _; omega, by show 8 + (jn I' + 11) + 40 * jd I' ≤ _; omega⟩
  subst hst0
  have hG : GoodIn jv_gw (jv_ws I') := jv_good (by
    unfold jv_ws
    intro w hw
    rcases List.mem_cons.mp hw with rfl | hw
    · exact i4
    · exact hw)
  have cw := va_cnB (R := R) (rm := jv_rm (jd I') k' z') (mc := k') (ms := z') (host := "RumourPipes") (index := idx) na c5 hG rfl rfl rfl (c10.2.2.2.2.2.2.2.2.1 _ hlk) (by rw [i3]; exact c5 _ i5) ⟨by rw [i3]; exact i6.1, by rw [i3]; exact i6.2, hna⟩ hR
  have hp : PreV s H (jo I') (g.1 + q) (jv_Pc g (jv_r g q :: As) n sh V L) As := ⟨jv_Pc.blind, by rw [hco]; exact jv_recv c10.1 hP hc hs, jv_pre c10 hS hP⟩
  exact jv_cont (vx_runVN ⟨c1, c2, c3, c4, c5⟩ hM ⟨cw, c5 _ hin, c5 _ hse⟩ hp rfl hAs hl0.1 rfl (lv_room hcat) d ⟨by omega, by omega⟩) hC hS hl0 hcc hss hk hz kk kx
theorem jv_callS {idx na : Nat} {As : List Value} (hI : jv_mok I') (hlk : Cond.methodLink (jo I) idx (jy I') ∈ jv_gw) (hsta : Cond.static (jy I') ∈ jv_gw) (hna : (parseMethodDescriptor (jy I').desc).map (fun d => d.parameters.length) = some na) (hlv : jd I' + 1 ≤ jd I) (d : decode (jb I) pc = .ok (.invokestatic idx, 3)) (hAs : As.length = na) (hst0 : st0 = As.reverse ++ rest) (hcat : (rest.map fun v => v.category).sum ≤ 8) (hsl : (lg_sl As).length ≤ jn I') (hls : ∀ x ∈ jv_lst ls', x ∈ lv_args 0 As)
    (body : ∀ X', jv_M g X' T' → jv_J g X' I' 0 ls' [] n sh V L k' z') (hk : k' + k2 ≤ k) (hz : z' + z2 ≤ z)
    (kk : ∀ v n1 sh1 V1 L1, T' (.inl v) n1 sh1 V1 L1 → jv_J g X I (pc + 3) ls (v.toList ++ rest) n1 sh1 V1 L1 k2 z2)
    (kx : ∀ E n1 sh1 V1 L1, T' (.inr E) n1 sh1 V1 L1 → jv_Th g X I pc ls rest E n1 sh1 V1 L1 k2 z2) : jv_J g X I pc ls st0 n sh V L k z := by
  obtain ⟨p, l, e, R, s, m, args, below, meth, cd, Q⟩ := X
  intro hC lsA H locs cells slots hP hS hl0 hcc hss
  obtain ⟨c1, c2, c3, c4, c5, c6, c7, c8, c9, c10, c11, c12, c13⟩ := id hC
  have hM := jv_met (l := l) c11 hI hsl hls body
  obtain ⟨i1, i2, i3, i4, i5, i6, i7⟩ := hI
  have hR : (jv_rm (jd I') k' z').frames + 1 ≤ R.frames ∧ 8 + (jn I' + 11) + (jv_rm (jd I') k' z').locals ≤ R.locals := ⟨by show jd I' + 1 ≤ _; omega, by show 8 + (jn I' + 11) + 40 * jd I' ≤ _; omega⟩
  subst hst0
  have hG : GoodIn jv_gw (va_wsS (jo I) idx (jy I') (jv_ws I')) := jv_good (by
    unfold va_wsS jv_ws
    intro w hw
    simp only [List.mem_append, List.mem_cons, List.not_mem_nil, or_false] at hw
    rcases hw with (rfl | rfl | rfl) | (rfl | hw)
    · exact hlk
    · exact hsta
    · rw [i3]; exact i5
    · exact i4
    · exact hw)
  have cw := va_cwS (R := R) (rm := jv_rm (jd I') k' z') (mc := k') (ms := z') na c5 hG rfl rfl rfl ⟨by rw [i3]; exact i6.1, by rw [i3]; exact i6.2, hna⟩ hR
  have hp : PreS s H (jv_Pc g As n sh V L) As := ⟨jv_Pc.blind, jv_pre c10 hS hP⟩
  exact jv_cont (vx_runS ⟨c1, c2, c3, c4, c5⟩ hM cw hp rfl hAs hl0.1 rfl (lv_room hcat) d ⟨by omega, by omega⟩) hC hS hl0 hcc hss hk hz kk kx
theorem jv_callI {c N q : Nat} {C : String} {F : u_T} {ty : Nat → FieldType} {idx na : Nat} {As : List Value} (hI : jv_mok I') (hlk : Cond.methodLink (jo I) idx (jy I') ∈ jv_gw) (hin : Cond.instanceMethod (jy I') ∈ jv_gw) (hnm : (jy I').name = "<init>") (hret : jr I' = none) (hna : (parseMethodDescriptor (jy I').desc).map (fun d => d.parameters.length) = some na) (hlv : jd I' + 1 ≤ jd I) (d : decode (jb I) pc = .ok (.invokespecial idx, 3)) (hc : jv_cls c C F N ty) (hco : jo I' = C) (hs : (sh q).1 = c + 1) (hAs : As.length = na) (hst0 : st0 = As.reverse ++ jv_r g q :: rest) (hcat : (rest.map fun v => v.category).sum ≤ 8) (hsl : (lg_sl (jv_r g q :: As)).length ≤ jn I') (hls : ∀ x ∈ jv_lst ls', x ∈ lv_args 0 (jv_r g q :: As))
    (body : ∀ X', jv_M g X' T' → jv_J g X' I' 0 ls' [] n sh V L k' z') (hk : k' + k2 ≤ k) (hz : z' + z2 ≤ z)
    (kk : ∀ v n1 sh1 V1 L1, T' (.inl v) n1 sh1 V1 L1 → jv_J g X I (pc + 3) ls (v.toList ++ rest) n1 sh1 V1 L1 k2 z2)
    (kx : ∀ E n1 sh1 V1 L1, T' (.inr E) n1 sh1 V1 L1 → jv_Th g X I pc ls rest E n1 sh1 V1 L1 k2 z2) : jv_J g X I pc ls st0 n sh V L k z := by
  obtain ⟨p, l, e, R, s, m, args, below, meth, cd, Q⟩ := X
  intro hC lsA H locs cells slots hP hS hl0 hcc hss
  obtain ⟨c1, c2, c3, c4, c5, c6, c7, c8, c9, c10, c11, c12, c13⟩ := id hC
  have hM := jv_met (l := l) c11 hI hsl hls body
  obtain ⟨i1, i2, i3, i4, i5, i6, i7⟩ := hI
  have hR : (jv_rm (jd I') k' z').frames + 1 ≤ R.frames ∧ 8 + (jn I' + 11) + (jv_rm (jd I') k' z').locals ≤ R.locals := ⟨by show jd I' + 1 ≤ _; omega, by show 8 + (jn I' + 11) + 40 * jd I' ≤ _; omega⟩
  subst hst0
  have hG : GoodIn jv_gw (jv_ws I') := jv_good (by
    unfold jv_ws
    intro w hw
    rcases List.mem_cons.mp hw with rfl | hw
    · exact i4
    · exact hw)
  have cw := cwI (R := R) (rm := jv_rm (jd I') k' z') (mc := k') (ms := z') (bytes := jb I') (maxL := jn I') (ws' := jv_gw) (index := idx) na c5 hG (by unfold jv_ws; rw [hret]) rfl rfl (by rw [i3]; exact c5 _ i5) (c5 _ hlk) (c5 _ hin) hnm ⟨by rw [i3]; exact i6.1, by rw [i3]; exact i6.2, hna⟩ hR
  have hp : PreS s H (jv_Pc g (jv_r g q :: As) n sh V L) (.ref (g.1 + q) :: As) := ⟨jv_Pc.blind, jv_pre c10 hS hP⟩
  exact jv_cont (vx_runI ⟨c1, c2, c3, c4, c5⟩ hM cw hp rfl hAs hl0.1 rfl (lv_room hcat) d ⟨by omega, by omega⟩) hC hS hl0 hcc hss hk hz kk kx
theorem jv_callIN {host : String} {c N q : Nat} {C : String} {F : u_T} {ty : Nat → FieldType} {idx na : Nat} {As : List Value} (hI : jv_mok I') (hlk : Cond.methodLinkNest (jo I) idx (jy I') host ∈ jv_nst) (hin : Cond.instanceMethod (jy I') ∈ jv_gw) (hnm : (jy I').name = "<init>") (hret : jr I' = none) (hna : (parseMethodDescriptor (jy I').desc).map (fun d => d.parameters.length) = some na) (hlv : jd I' + 1 ≤ jd I) (d : decode (jb I) pc = .ok (.invokespecial idx, 3)) (hc : jv_cls c C F N ty) (hco : jo I' = C) (hs : (sh q).1 = c + 1) (hAs : As.length = na) (hst0 : st0 = As.reverse ++ jv_r g q :: rest) (hcat : (rest.map fun v => v.category).sum ≤ 8) (hsl : (lg_sl (jv_r g q :: As)).length ≤ jn I') (hls : ∀ x ∈ jv_lst ls', x ∈ lv_args 0 (jv_r g q :: As))
    (body : ∀ X', jv_M g X' T' → jv_J g X' I' 0 ls' [] n sh V L k' z') (hk : k' + k2 ≤ k) (hz : z' + z2 ≤ z)
    (kk : ∀ v n1 sh1 V1 L1, T' (.inl v) n1 sh1 V1 L1 → jv_J g X I (pc + 3) ls (v.toList ++ rest) n1 sh1 V1 L1 k2 z2)
    (kx : ∀ E n1 sh1 V1 L1, T' (.inr E) n1 sh1 V1 L1 → jv_Th g X I pc ls rest E n1 sh1 V1 L1 k2 z2) : jv_J g X I pc ls st0 n sh V L k z := by
  obtain ⟨p, l, e, R, s, m, args, below, meth, cd, Q⟩ := X
  intro hC lsA H locs cells slots hP hS hl0 hcc hss
  obtain ⟨c1, c2, c3, c4, c5, c6, c7, c8, c9, c10, c11, c12, c13⟩ := id hC
  have hM := jv_met (l := l) c11 hI hsl hls body
  obtain ⟨i1, i2, i3, i4, i5, i6, i7⟩ := hI
  have hR : (jv_rm (jd I') k' z').frames + 1 ≤ R.frames ∧ 8 + (jn I' + 11) + (jv_rm (jd I') k' z').locals ≤ R.locals := ⟨by show jd I' + 1 ≤ _; omega, by show 8 + (jn I' + 11) + 40 * jd I' ≤ _; omega⟩
  subst hst0
  have hG : GoodIn jv_gw (jv_ws I') := jv_good (by
    unfold jv_ws
    intro w hw
    rcases List.mem_cons.mp hw with rfl | hw
    · exact i4
    · exact hw)
  have cw := va_cnB (R := R) (rm := jv_rm (jd I') k' z') (mc := k') (ms := z') (bytes := jb I') (maxL := jn I') (ret := none) (ws' := jv_gw) (host := host) (index := idx) na c5 hG (by unfold jv_ws; rw [hret]) rfl rfl (c10.2.2.2.2.2.2.2.2.1 _ hlk) (by rw [i3]; exact c5 _ i5) ⟨by rw [i3]; exact i6.1, by rw [i3]; exact i6.2, hna⟩ hR
  have hp : PreS s H (jv_Pc g (jv_r g q :: As) n sh V L) (.ref (g.1 + q) :: As) := ⟨jv_Pc.blind, jv_pre c10 hS hP⟩
  exact jv_cont (vx_runIN ⟨c1, c2, c3, c4, c5⟩ hM ⟨cw, hnm, c5 _ hin⟩ hp rfl hAs hl0.1 rfl (lv_room hcat) d ⟨by omega, by omega⟩) hC hS hl0 hcc hss hk hz kk kx
theorem jv_callSW {idx na : Nat} {As : List Value} (hI : jv_mokW I') (hlk : Cond.methodLink (jo I) idx (jy I') ∈ jv_gw) (hsta : Cond.static (jy I') ∈ jv_gw) (hna : (parseMethodDescriptor (jy I').desc).map (fun d => d.parameters.length) = some na) (hlv : jd I' + 1 ≤ jd I) (d : decode (jb I) pc = .ok (.invokestatic idx, 3)) (hAs : As.length = na) (hst0 : st0 = As.reverse ++ rest) (hcat : (rest.map fun v => v.category).sum ≤ 8) (hsl : (lg_sl As).length ≤ jn I') (hls : ∀ x ∈ jv_lst ls', x ∈ lv_args 0 As)
    (body : ∀ X', jv_M g X' T' → jv_J g X' I' 0 ls' [] n sh V L k' z') (hk : k' + k2 ≤ k) (hz : z' + z2 ≤ z)
    (kk : ∀ v n1 sh1 V1 L1, T' (.inl v) n1 sh1 V1 L1 → jv_J g X I (pc + 3) ls (v.toList ++ rest) n1 sh1 V1 L1 k2 z2)
    (kx : ∀ E n1 sh1 V1 L1, T' (.inr E) n1 sh1 V1 L1 → jv_Th g X I pc ls rest E n1 sh1 V1 L1 k2 z2) : jv_J g X I pc ls st0 n sh V L k z := by
  obtain ⟨p, l, e, R, s, m, args, below, meth, cd, Q⟩ := X
  intro hC lsA H locs cells slots hP hS hl0 hcc hss
  obtain ⟨c1, c2, c3, c4, c5, c6, c7, c8, c9, c10, c11, c12, c13⟩ := id hC
  have hM := jv_metW (l := l) c11 hI hsl hls body
  obtain ⟨i2, i3, i4, i5, i6, i7⟩ := hI
  have hR : (jv_rm (jd I') k' z').frames + 1 ≤ R.frames ∧ 8 + (jn I' + 11) + (jv_rm (jd I') k' z').locals ≤ R.locals := ⟨by show jd I' + 1 ≤ _; omega, by show 8 + (jn I' + 11) + 40 * jd I' ≤ _; omega⟩
  subst hst0
  have hG : GoodIn jv_gw (va_wsS (jo I) idx (jy I') (jv_wsW I')) := jv_good (by
    unfold va_wsS jv_wsW
    intro w hw
    simp only [List.mem_append, List.mem_cons, List.not_mem_nil, or_false] at hw
    rcases hw with (rfl | rfl | rfl) | (rfl | hw)
    · exact hlk
    · exact hsta
    · rw [i3]; exact i5
    · exact i4
    · exact hw)
  have cw := vx_cwSW (R := R) (rm := jv_rm (jd I') k' z') (mc := k') (ms := z') na c5 hG rfl rfl rfl ⟨by rw [i3]; exact i6.1, by rw [i3]; exact i6.2, hna⟩ hR
  have hp : PreS s H (jv_Pc g As n sh V L) As := ⟨jv_Pc.blind, jv_pre c10 hS hP⟩
  exact jv_cont (vx_runSX ⟨c1, c2, c3, c4, c5⟩ hM cw hp rfl hAs hl0.1 rfl (lv_room hcat) d ⟨by omega, by omega⟩) hC hS hl0 hcc hss hk hz kk kx
end JVC
