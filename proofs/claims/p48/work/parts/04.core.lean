/-! ===== THE FLAT MACHINE: a heap as shapes (kind, length, references) and one memory of numbers; places are counted from the law's entry ===== -/
abbrev jv_S : Type := Nat × Nat × (Nat → Option Nat)
abbrev jv_G : Type := Nat × va_G × (Nat → ClassId)
/-- own class, name, bytes, locals, answer, handlers, level -/
abbrev jv_I : Type := String × MethodName × ByteArray × Nat × Option FieldType × List (Nat × Nat × Nat × Nat) × Nat
abbrev jo (I : jv_I) : String := I.1
abbrev jy (I : jv_I) : MethodName := I.2.1
abbrev jb (I : jv_I) : ByteArray := I.2.2.1
abbrev jn (I : jv_I) : Nat := I.2.2.2.1
abbrev jr (I : jv_I) : Option FieldType := I.2.2.2.2.1
abbrev jh (I : jv_I) : List (Nat × Nat × Nat × Nat) := I.2.2.2.2.2.1
abbrev jd (I : jv_I) : Nat := I.2.2.2.2.2.2
abbrev jv_X : Type := Program × Launch × Env × Room × State × MethodId × Array Value × List Frame × Method × Code × (State → Prop)
def jv_r (g : jv_G) (q : Nat) : Value := Value.ref (g.1 + q)
def jv_tys (g : jv_G) : List (ClassId × FieldType) := [(g.2.2 0, .int), (g.2.2 1, .boolean), (g.2.2 2, .object "RumourPipesLaw$Rumour"), (g.2.2 3, .object "RumourPipes$Rumour"), (g.2.2 4, .object "RumourPipes$Lift"), (g.2.2 5, .array .int)]
def jv_isR (c k : Nat) : Bool := if c = 0 then decide (k = 2) else if c = 1 then decide (2 ≤ k) else if c = 2 then decide (2 ≤ k) else if c = 3 then true else if c = 4 then decide (k < 4) else if c = 5 then decide (2 ≤ k) else decide (1 ≤ k)
def jv_N (c : Nat) : Nat := if c = 0 then 3 else if c = 1 then 11 else if c = 2 then 8 else if c = 3 then 3 else if c = 4 then 6 else if c = 5 then 9 else 7
def jv_rv (b : Nat) (o : Option Nat) : Value := match o with
  | none => .null
  | some q => .ref (b + q)
def jv_fs (b c : Nat) (r : Nat → Option Nat) (v : Nat → Int32) : List Value := (List.range (jv_N c)).map (fun k => if jv_isR c k then jv_rv b (r k) else .int (v k))
def jv_ent (g : jv_G) (x : jv_S) (v : Nat → Int32) (w : Nat → Int64) : Option va_E :=
  if x.1 = 0 then none
  else if x.1 ≤ 7 then some (.inr (x.1 - 1, jv_fs g.1 (x.1 - 1) x.2.2 v))
  else if x.1 = 10 then some (.inl (g.2.2 0, x.2.1, .inl v))
  else if x.1 = 11 then some (.inl (g.2.2 1, x.2.1, .inl v))
  else if x.1 ≤ 15 then some (.inl (g.2.2 (x.1 - 10), x.2.1, .inr (.inr (.inr (.inr (fun i => (x.2.2 i).map (fun q => g.1 + q)))))))
  else none
theorem jv_ent_o {g : jv_G} {x : jv_S} {v : Nat → Int32} {w : Nat → Int64} {c : Nat} (h : x.1 = c + 1) (hc : c < 7) : jv_ent g x v w = some (.inr (c, jv_fs g.1 c x.2.2 v)) := by
  unfold jv_ent
  rw [if_neg (by omega), if_pos (by omega), show x.1 - 1 = c by omega]
theorem jv_ent_i {g : jv_G} {x : jv_S} {v : Nat → Int32} {w : Nat → Int64} (h : x.1 = 10) : jv_ent g x v w = some (.inl (g.2.2 0, x.2.1, .inl v)) := by
  unfold jv_ent
  rw [if_neg (by omega), if_neg (by omega), if_pos h]
theorem jv_ent_z {g : jv_G} {x : jv_S} {v : Nat → Int32} {w : Nat → Int64} (h : x.1 = 11) : jv_ent g x v w = some (.inl (g.2.2 1, x.2.1, .inl v)) := by
  unfold jv_ent
  rw [if_neg (by omega), if_neg (by omega), if_neg (by omega), if_pos h]
theorem jv_ent_r {g : jv_G} {x : jv_S} {v : Nat → Int32} {w : Nat → Int64} {t : Nat} (h : x.1 = t + 10) (h3 : 2 ≤ t) (h5 : t ≤ 5) : jv_ent g x v w = some (.inl (g.2.2 t, x.2.1, .inr (.inr (.inr (.inr (fun i => (x.2.2 i).map (fun q => g.1 + q))))))) := by
  unfold jv_ent
  rw [if_neg (by omega), if_neg (by omega), if_neg (by omega), if_neg (by omega), if_pos (by omega), show x.1 - 10 = t by omega]
theorem jv_fs_at {b c k : Nat} {r : Nat → Option Nat} {v : Nat → Int32} (h : k < jv_N c) : (jv_fs b c r v)[k]? = some (if jv_isR c k then jv_rv b (r k) else .int (v k)) := by
  unfold jv_fs
  rw [List.getElem?_map, List.getElem?_range h]
  rfl
theorem jv_fs_len {b c : Nat} {r : Nat → Option Nat} {v : Nat → Int32} : (jv_fs b c r v).length = jv_N c := by
  unfold jv_fs
  rw [List.length_map, List.length_range]
theorem jv_fs_int {b c k : Nat} {r : Nat → Option Nat} {v : Nat → Int32} {x : Int32} (h : jv_isR c k = false) : (jv_fs b c r v).set k (.int x) = jv_fs b c r (fun j => if j = k then x else v j) := by
  apply List.ext_getElem?
  intro j
  rw [List.getElem?_set, jv_fs_len]
  by_cases hj : j < jv_N c
  · rw [jv_fs_at hj, jv_fs_at hj]
    by_cases e : k = j
    · subst e
      rw [if_pos rfl, if_pos hj, h]
      simp
    · rw [if_neg e]
      simp [Ne.symm e]
  · have h1 : (jv_fs b c r v)[j]? = none := List.getElem?_eq_none (by rw [jv_fs_len]; omega)
    have h2 : (jv_fs b c r (fun j => if j = k then x else v j))[j]? = none := List.getElem?_eq_none (by rw [jv_fs_len]; omega)
    rw [h1, h2]
    by_cases e : k = j
    · rw [if_pos e, if_neg (by omega)]
    · rw [if_neg e]
theorem jv_fs_ref {b c k q : Nat} {r : Nat → Option Nat} {v : Nat → Int32} (h : jv_isR c k = true) : (jv_fs b c r v).set k (.ref (b + q)) = jv_fs b c (fun j => if j = k then some q else r j) v := by
  apply List.ext_getElem?
  intro j
  rw [List.getElem?_set, jv_fs_len]
  by_cases hj : j < jv_N c
  · rw [jv_fs_at hj, jv_fs_at hj]
    by_cases e : k = j
    · subst e
      rw [if_pos rfl, if_pos hj, h]
      simp [jv_rv]
    · rw [if_neg e]
      simp [Ne.symm e]
  · have h1 : (jv_fs b c r v)[j]? = none := List.getElem?_eq_none (by rw [jv_fs_len]; omega)
    have h2 : (jv_fs b c (fun j => if j = k then some q else r j) v)[j]? = none := List.getElem?_eq_none (by rw [jv_fs_len]; omega)
    rw [h1, h2]
    by_cases e : k = j
    · rw [if_pos e, if_neg (by omega)]
    · rw [if_neg e]
/-- the memory, and the shapes, with one place's one number changed -/
def jv_U (V : Nat → Nat → Int32) (p i : Nat) (x : Int32) : Nat → Nat → Int32 := fun q j => if q = p then (if j = i then x else V q j) else V q j
def jv_UL (L : Nat → Nat → Int64) (p i : Nat) (x : Int64) : Nat → Nat → Int64 := fun q j => if q = p then (if j = i then x else L q j) else L q j
def jv_US (sh : Nat → jv_S) (p i q2 : Nat) : Nat → jv_S := fun q => if q = p then ((sh q).1, (sh q).2.1, fun j => if j = i then some q2 else (sh q).2.2 j) else sh q
def jv_NS (sh : Nat → jv_S) (p : Nat) (x : jv_S) : Nat → jv_S := fun q => if q = p then x else sh q
def jv_NV (V : Nat → Nat → Int32) (p : Nat) (f : Nat → Int32) : Nat → Nat → Int32 := fun q => if q = p then f else V q
def jv_NL (L : Nat → Nat → Int64) (p : Nat) (f : Nat → Int64) : Nat → Nat → Int64 := fun q => if q = p then f else L q
/-- the heap holds the flat memory of n places -/
def jv_P (g : jv_G) (n : Nat) (sh : Nat → jv_S) (V : Nat → Nat → Int32) (L : Nat → Nat → Int64) (H : Heap) : Prop :=
  H.size = g.1 + n ∧ (∀ p, (sh p).1 ≠ 0 → p < n) ∧ ∀ p e, jv_ent g (sh p) (V p) (L p) = some e → va_at g.2.1 vwCl (g.1 + p, e) H
theorem jv_P.one {D : va_G} {a : Nat} {e : va_E} {H : Heap} (h : va_at D vwCl (a, e) H) : va_P D vwCl [(a, e)] H := by
  intro k q hk
  cases k with
  | zero => cases hk; exact h
  | succ k => simp at hk
theorem jv_P.put {g : jv_G} {n p : Nat} {sh sh' : Nat → jv_S} {V V' : Nat → Nat → Int32} {L L' : Nat → Nat → Int64} {H H1 : Heap} (h : jv_P g n sh V L H) (hz : H1.size = H.size) (hq : ∀ q, q ≠ g.1 + p → H1[q]? = H[q]?) (hs : (sh p).1 ≠ 0)
    (hp : ∀ e, jv_ent g (sh' p) (V' p) (L' p) = some e → va_at g.2.1 vwCl (g.1 + p, e) H1) (ho : ∀ q, q ≠ p → sh' q = sh q ∧ V' q = V q ∧ L' q = L q) : jv_P g n sh' V' L' H1 := by
  obtain ⟨h1, h2, h3⟩ := h
  refine ⟨hz.trans h1, fun q hq0 => ?_, fun q e he => ?_⟩
  · by_cases e : q = p
    · subst e; exact h2 q hs
    · rw [(ho q e).1] at hq0; exact h2 q hq0
  · by_cases e' : q = p
    · subst e'; exact hp e he
    · obtain ⟨a1, a2, a3⟩ := ho q e'
      rw [a1, a2, a3] at he
      exact (h3 q e he).kept (hq _ (by show g.1 + q ≠ g.1 + p; omega))
theorem jv_P.new {g : jv_G} {n : Nat} {sh sh' : Nat → jv_S} {V V' : Nat → Nat → Int32} {L L' : Nat → Nat → Int64} {H H1 : Heap} (h : jv_P g n sh V L H) (hz : H1.size = H.size + 1) (hq : ∀ q, q < H.size → H1[q]? = H[q]?)
    (hp : ∀ e, jv_ent g (sh' n) (V' n) (L' n) = some e → va_at g.2.1 vwCl (g.1 + n, e) H1) (ho : ∀ q, q ≠ n → sh' q = sh q ∧ V' q = V q ∧ L' q = L q) : jv_P g (n + 1) sh' V' L' H1 := by
  obtain ⟨h1, h2, h3⟩ := h
  refine ⟨by rw [hz, h1]; rfl, fun q hq0 => ?_, fun q e he => ?_⟩
  · by_cases e : q = n
    · omega
    · rw [(ho q e).1] at hq0; exact Nat.lt_succ_of_lt (h2 q hq0)
  · by_cases e' : q = n
    · subst e'; exact hp e he
    · obtain ⟨a1, a2, a3⟩ := ho q e'
      rw [a1, a2, a3] at he
      exact (h3 q e he).kept (hq _ (h3 q e he).lt)
theorem jv_P.junk {g : jv_G} {n : Nat} {sh : Nat → jv_S} {V : Nat → Nat → Int32} {L : Nat → Nat → Int64} {H H1 : Heap} (h : jv_P g n sh V L H) (hz : H.size ≤ H1.size) (hq : ∀ q, q < H.size → H1[q]? = H[q]?) : ∃ n', n ≤ n' ∧ jv_P g n' sh V L H1 := by
  obtain ⟨h1, h2, h3⟩ := h
  refine ⟨H1.size - g.1, by omega, by omega, fun q hq0 => ?_, fun q e he => ?_⟩
  · have := h2 q hq0
    omega
  · exact (h3 q e he).kept (hq _ (h3 q e he).lt)
/-- locals, by their numbers -/
def jv_lst (ls : List (Option Value)) : List (Nat × Value) := (List.range ls.length).filterMap (fun i => match ls[i]? with
  | some (some v) => some (i, v)
  | _ => none)
theorem jv_lst_mem {ls : List (Option Value)} {i : Nat} {v : Value} : (i, v) ∈ jv_lst ls ↔ ls[i]? = some (some v) := by
  unfold jv_lst
  rw [List.mem_filterMap]
  constructor
  · rintro ⟨j, -, hj⟩
    split at hj
    · cases hj; assumption
    · cases hj
  · intro h
    refine ⟨i, List.mem_range.mpr (List.getElem?_eq_some_iff.mp h).1, ?_⟩
    rw [h]
theorem jv_has {lsA : Array Slot} {nL : Nat} {l l' : List (Nat × Value)} (h : lv_has lsA nL l) (hs : ∀ q ∈ l', q ∈ l) : lv_has lsA nL l' := ⟨h.1, h.2.1, fun q hq => h.2.2 q (hs q hq)⟩
theorem jv_ld {lsA : Array Slot} {nL i : Nat} {ls : List (Option Value)} {v : Value} (h : lv_has lsA nL (jv_lst ls)) (hi : ls[i]? = some (some v)) : lsA[i]? = some (.val v) := h.2.2 (i, v) (jv_lst_mem.mpr hi)
/-- the place below holds no long or double -/
def jv_ok (ls : List (Option Value)) (i : Nat) : Prop := ∀ j v, j + 1 = i → ls[j]? = some (some v) → v.category ≠ 2
def jv_c1 (o : Option Value) : Bool := match o with
  | none => true
  | some v => v.category == 1
theorem jv_st1 {lsA : Array Slot} {nL i : Nat} {ls : List (Option Value)} {v : Value} (hk : jv_ok ls i) (h : lv_has lsA nL ((i, v) :: (jv_lst ls).filter (fun q => !(q.1 == i) && !(q.1 + 1 == i && q.2.category == 2)))) : lv_has lsA nL (jv_lst (ls.set i (some v))) := by
  refine jv_has h fun q hq => ?_
  obtain ⟨j, w⟩ := q
  have h1 := jv_lst_mem.mp hq
  rw [List.getElem?_set] at h1
  by_cases e : i = j
  · subst e
    rw [if_pos rfl] at h1
    split at h1
    · cases h1; exact List.mem_cons_self
    · cases h1
  · rw [if_neg e] at h1
    refine List.mem_cons_of_mem _ (List.mem_filter.mpr ⟨jv_lst_mem.mpr h1, ?_⟩)
    have n1 : (j == i) = false := by simp [Ne.symm e]
    have n2 : (j + 1 == i && w.category == 2) = false := by
      by_cases e2 : j + 1 = i
      · have := hk j w e2 h1
        simp [this]
      · simp [e2]
    show (!(j == i) && !(j + 1 == i && w.category == 2)) = true
    rw [n1, n2]
    rfl
theorem jv_st2 {lsA : Array Slot} {nL i : Nat} {ls : List (Option Value)} {v : Value} (hk : jv_ok ls i) (h : lv_has lsA nL ((i, v) :: (jv_lst ls).filter (fun q => !(q.1 == i) && (!(q.1 == i + 1) && !(q.1 + 1 == i && q.2.category == 2))))) : lv_has lsA nL (jv_lst ((ls.set i (some v)).set (i + 1) none)) := by
  refine jv_has h fun q hq => ?_
  obtain ⟨j, w⟩ := q
  have h1 := jv_lst_mem.mp hq
  rw [List.getElem?_set] at h1
  by_cases e' : i + 1 = j
  · subst e'
    rw [if_pos rfl] at h1
    split at h1 <;> cases h1
  rw [if_neg e', List.getElem?_set] at h1
  by_cases e : i = j
  · subst e
    rw [if_pos rfl] at h1
    split at h1
    · cases h1; exact List.mem_cons_self
    · cases h1
  · rw [if_neg e] at h1
    refine List.mem_cons_of_mem _ (List.mem_filter.mpr ⟨jv_lst_mem.mpr h1, ?_⟩)
    have n1 : (j == i) = false := by simp [Ne.symm e]
    have n3 : (j == i + 1) = false := by simp [Ne.symm e']
    have n2 : (j + 1 == i && w.category == 2) = false := by
      by_cases e2 : j + 1 = i
      · have := hk j w e2 h1
        simp [this]
      · simp [e2]
    show (!(j == i) && (!(j == i + 1) && !(j + 1 == i && w.category == 2))) = true
    rw [n1, n2, n3]
    rfl
/-- the words that every method keeps -/
def jv_gw : List Cond := lw_tbl.filter goodWord
theorem jv_gwm {w : Cond} (i : Nat) (h : lw_tbl[i]? = some w) (hg : goodWord w = true) : w ∈ jv_gw := List.mem_filter.mpr ⟨List.mem_of_getElem? h, hg⟩
theorem jv_gwg {w : Cond} (h : w ∈ jv_gw) : (w.onTables && w.keeps) = true ∨ ∃ ty, w = .arrayClass ty := good_of_word (List.mem_filter.mp h).2
/-- links between nest mates -/
def jv_isN : Cond → Bool
  | .fieldLinkNest .. => true
  | .methodLinkNest .. => true
  | _ => false
def jv_nst : List Cond := lw_tbl.filter jv_isN
theorem jv_nsm {w : Cond} (i : Nat) (h : lw_tbl[i]? = some w) (hg : jv_isN w = true) : w ∈ jv_nst := List.mem_filter.mpr ⟨List.mem_of_getElem? h, hg⟩
theorem jv_nsw {w : Cond} (h : w ∈ jv_nst) {s U : State} (hW : s.WarmedH U.vm) (hw : va_Nw w s) : va_Nw w U := by
  have h2 := (List.mem_filter.mp h).2
  unfold jv_isN at h2
  split at h2
  · exact va_Nw.warmF hW hw
  · exact va_Nw.warmM hW hw
  · cases h2
theorem jv_nsv {w : Cond} (h : w ∈ jv_nst) {u U : State} (hv : u.vm = U.vm) (hw : va_Nw w u) : va_Nw w U := by
  have h2 := (List.mem_filter.mp h).2
  unfold jv_isN at h2
  split at h2
  · exact va_Nw.same rfl hv hw
  · exact va_Nw.same rfl hv hw
  · cases h2
def jv_exs : List String := ["java/lang/IndexOutOfBoundsException", "java/lang/IllegalArgumentException", "java/lang/IllegalStateException"]
/-- words of classes' kinship, and of who declares a method -/
def jv_isO : Cond → Bool
  | .castable .. => true
  | .declares .. => true
  | _ => false
def jv_oth : List Cond := lw_tbl.filter jv_isO
theorem jv_tab {c : Cond} (hc : c.onTables = true) {u U : State} (h : c.before #[] (u.setVm U.vm) = true) : c.before #[] U = true := by
  have e := Cond.onTables_vm (A := #[]) (A' := #[]) (U := u) (U' := U) U.vm c hc
  have hU : U.setVm U.vm = U := rfl
  rw [hU] at e
  rw [← e]
  exact h
theorem jv_osw {w : Cond} (h : w ∈ jv_oth) {u U : State} (hvm : u.vm.Alike U.vm) (hw : va_Nw w u) : va_Nw w U := by
  have h2 := (List.mem_filter.mp h).2
  unfold jv_isO at h2
  split at h2
  · exact jv_tab rfl (by rw [Cond.castable_setVm hvm]; exact hw)
  · exact jv_tab rfl (by rw [Cond.declares_setVm hvm]; exact hw)
  · cases h2
theorem jv_exo : ∀ E ∈ jv_exs, Cond.castable E E ∈ jv_oth := by decide +kernel
def jv_strs : List (String × Nat × String) := [("RumourPipes", 81, "there are as many lifts as can be"), ("RumourPipes", 106, "there are as many rumours as can be"), ("RumourPipes", 118, "it was denied there already"), ("RumourPipes", 285, "no such floor"), ("RumourPipes", 288, "no stairs lead up from there"), ("RumourPipes", 290, "no such lift"), ("RumourPipes", 292, "no such rumour"), ("RumourPipes", 296, "out of the range that is allowed")]
/-- the script: its place, its length, its numbers stand in g, in a column that no class uses -/
def scB (g : jv_G) : Nat := g.2.1.2 100 0
def scM (g : jv_G) : Nat := g.2.1.2 100 1
def scX (g : jv_G) (j : Nat) : Int32 := nI (g.2.1.2 101 j)
def jv_scr (g : jv_G) (U : State) (H : Heap) : Prop := va_X (scB g) (scM g) (scX g) U H ∧ scB g < g.1 ∧ scM g ≤ 260
/-- what holds of the machine beside the heap's world -/
def jv_E (g : jv_G) (U : State) (H : Heap) : Prop := va_K g.2.1 vwCl (jv_tys g) U ∧ vx_Zq Bundle.tN "UNASSIGNED_STACK" Bundle.steD (fun q => g.1 ≤ q) U H ∧ vx_Zq Bundle.tN "SUPPRESSED_SENTINEL" Bundle.listD (fun q => g.1 ≤ q) U H ∧ g.1 ≤ H.size ∧
  (∀ q ∈ jv_strs, ∃ sa, vk_R q.1 q.2.1 q.2.2 sa U) ∧ ((va_AO "RumourPipes$Rumour" U ∧ va_AO "RumourPipesLaw$Rumour" U) ∧ jv_scr g U H) ∧ va_AO "RumourPipes$Lift" U ∧ (Cond.arrayOver (.array .int)).before #[] U = true ∧ (∀ w ∈ jv_nst, va_Nw w U) ∧ (∀ w ∈ jv_oth, va_Nw w U) ∧ ∀ E ∈ jv_exs, ∀ F ∈ jv_exs, E ≠ F → F = "java/lang/IllegalStateException" → va_Nc E F U
def jv_C (g : jv_G) (X : jv_X) (I : jv_I) : Prop := match X with
  | (p, l, _, R, s, m, args, _, meth, c, _) => p.tables.exec = Jvm.exec ∧ c.code = jb I ∧ c.maxLocals = jn I ∧ s.vm.findClass (jo I) = some m.cls ∧ (∀ w ∈ jv_gw, w.before args s = true) ∧ meth.sig.returnType = jr I ∧ meth.locks = false ∧ meth.name = (jy I).name ∧ c.exceptionTable.toList = tableOf (jh I) ∧ jv_E g s s.heap ∧ l.stackTraces = false ∧ jd I ≤ R.frames ∧ 40 * jd I ≤ R.locals
def jv_J (g : jv_G) (X : jv_X) (I : jv_I) (pc : Nat) (ls : List (Option Value)) (st : List Value) (n : Nat) (sh : Nat → jv_S) (V : Nat → Nat → Int32) (L : Nat → Nat → Int64) (k z : Nat) : Prop := match X with
  | (p, l, e, R, s, m, args, below, meth, c, Q) => jv_C g (p, l, e, R, s, m, args, below, meth, c, Q) I → ∀ (lsA : Array Slot) (H : Heap) (locs : List Loc) (cells slots : Nat), jv_P g n sh V L H → va_S (fun q => g.1 ≤ q) s.heap H locs → lv_has lsA (jn I) (jv_lst ls) → cells + k ≤ R.cells → slots + z ≤ R.slots →
      W p l e R s m args below meth c H locs cells slots Q (F0 m pc lsA st)
abbrev jv_O : Type := Option Value ⊕ String
abbrev jv_T : Type := jv_O → Nat → (Nat → jv_S) → (Nat → Nat → Int32) → (Nat → Nat → Int64) → Prop
def jv_Q (g : jv_G) (T : jv_T) : Array Value → State → Outcome → State → Prop := fun _ st o t => ∃ (v : Option Value) (n : Nat) (sh : Nat → jv_S) (V : Nat → Nat → Int32) (L : Nat → Nat → Int64), o = .returned v ∧ T (.inl v) n sh V L ∧ jv_P g n sh V L t.heap ∧ va_F (fun q => g.1 ≤ q) st t
def jv_XC (g : jv_G) (T : jv_T) : String → State → State → Prop := fun E st t => ∃ (n : Nat) (sh : Nat → jv_S) (V : Nat → Nat → Int32) (L : Nat → Nat → Int64), T (.inr E) n sh V L ∧ jv_P g n sh V L t.heap ∧ va_F (fun q => g.1 ≤ q) st t
/-- the context of a method's own end: what its caller gets is T -/
def jv_M (g : jv_G) (X : jv_X) (T : jv_T) : Prop := match X with
  | (_, _, _, R, s, _, args, below, _, _, Q) => Q = vx_MQ below (jv_Q g T) (jv_XC g T) args s R.cells R.slots (fun q => g.1 ≤ q)
