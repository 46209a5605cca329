/-! ===== send ===== -/
def smE (f κ : Int32) (x : WE) : Bool := decide (x.1 = f ∧ x.2.2.1 = κ)
def nsm (f κ : Int32) (x : WE) : Bool := !smE f κ x
def stE (f h κ m : Int32) (x : WE) : Bool := smE f κ x && (decide (x.2.1 < h) || (decide (x.2.1 = h) && decide (x.2.2.2 ≤ m)))
def sendL (l : List WE) (f h κ m : Int32) : List WE := if l.any (stE f h κ m) = true then l else l.filter (nsm f κ) ++ [(f, h, κ, m)]
theorem take_mem {l : List WE} {i : Nat} {x y : WE} (hx : l[i]? = some x) (h : y ∈ l.take (i + 1)) : y ∈ l.take i ∨ y = x := by
  rw [List.take_add_one, hx] at h
  rcases List.mem_append.mp h with h | h
  · exact Or.inl h
  · exact Or.inr (by simpa using h)
def SP (n : Nat) (sh : Nat → jv_S) (V : Nat → Nat → Int32) (E : Nat → Prop) (p w : Nat) (l : List WE) (f h κ m : Int32) (n1 : Nat) (s1 : Nat → jv_S) (V1 : Nat → Nat → Int32) : Prop := n ≤ n1 ∧ (∀ q, q < n → q ≠ p → s1 q = sh q) ∧ (∀ q, q < n → V1 q = V q) ∧ (s1 p).1 = 6 ∧ (∀ j, j ≠ 8 → (s1 p).2.2 j = (sh p).2.2 j) ∧ ∃ w1, (s1 p).2.2 8 = some w1 ∧ WL (fun e => E e ∨ n ≤ e) n1 s1 V1 w1 (sendL l f h κ m) ∧ (w1 = w ∨ n ≤ w1)

set_option maxHeartbeats 4000000 in
set_option maxRecDepth 100000 in
theorem c_send_1 {g : jv_G} {X : jv_X} {T : jv_T} {n : Nat} {L : Nat → Nat → Int64} {k z : Nat} {E : Nat → Prop} {n0 lf w p : Nat} {l FL : List WE} {f h κ mm : Int32} {sh0 : Nat → jv_S} {V : Nat → Nat → Int32} (hW : WL E n0 sh0 V w l) (hl : l.length ≤ 24) (hwl : w ≠ lf) (hE0 : ∀ e, E e → e ≠ lf) (hM : jv_M g X T) (hTe : ∀ sh', (∀ q, q ≠ lf → sh' q = sh0 q) → ∀ x ∈ l, stE f h κ mm x = true → T (.inl none) n sh' V L) (kk : ∀ sh' v10 v11, (∀ q, q ≠ lf → sh' q = sh0 q) → (sh' lf).1 = 15 → (sh' lf).2.1 = l.length + 1 → RF E n0 sh0 V (sh' lf).2.2 FL → (∀ y ∈ l, stE f h κ mm y = false) → jv_J g X I_X5_send 118 [some (jv_r g p), some (.int f), some (.int h), some (.int κ), some (.int mm), some (jv_r g lf), some (.int (nI FL.length)), some (jv_r g w), some (.int (nI l.length)), some (.int (nI l.length)), v10, v11] [] n sh' V L k z) : ∀ (m : Nat) (i : Nat) (lp : List WE) (sh : Nat → jv_S) (v10 v11 : Option Value), i ≤ l.length → l.length + 1 ≤ i + m → (∀ q, q ≠ lf → sh q = sh0 q) → (sh lf).1 = 15 → (sh lf).2.1 = l.length + 1 → lp.length ≤ i → RF E n0 sh0 V (sh lf).2.2 lp → (∀ y ∈ l.take i, stE f h κ mm y = false) → lp ++ (l.drop i).filter (nsm f κ) = FL → jv_J g X I_X5_send 29 [some (jv_r g p), some (.int f), some (.int h), some (.int κ), some (.int mm), some (jv_r g lf), some (.int (nI lp.length)), some (jv_r g w), some (.int (nI l.length)), some (.int (nI i)), v10, v11] [] n sh V L k z := by
  intro m
  induction m with
  | zero => intro i lp sh v10 v11 hi hm hs hlk hln hlp hRF hno hFL; omega
  | succ m ih =>
  intro i lp sh v10 v11 hi hm hs hlk hln hlp hRF hno hFL
  refine j_iload_9 dX5_send_29 ?_
  refine j_iload_8 dX5_send_31 ?_
  refine j_ic_geN (by omega) (by omega) (tgt := 118) dX5_send_33 (by decide) (fun h33 => ?_) (fun h33 => ?_)
  · have ei : i = l.length := by omega
    rw [List.drop_eq_nil_of_le (by omega)] at hFL
    simp only [List.filter_nil, List.append_nil] at hFL
    subst hFL
    subst ei
    exact kk sh _ _ hs hlk hln hRF (by rw [List.take_length] at hno; exact hno)
  · obtain ⟨x, e, hx, he, hen, hE, hr0⟩ := hW.at (i := i) (by omega)
    have hr : rowAt sh V e x := hr0.to (hs e (hE0 e hE)) rfl
    have hwk : (sh w).1 = 15 := by rw [hs w hwl]; exact hW.1
    have hwn : (sh w).2.1 = l.length := by rw [hs w hwl]; exact hW.2.1
    have he' : (sh w).2.2 i = some e := by rw [hs w hwl]; exact he
    refine j_aload_7 dX5_send_36 ?_
    refine j_iload_9 dX5_send_38 ?_
    refine jr_aaldA dX5_send_40 hwk hwn (by omega) (by omega) he' ?_
    refine j_astore_10 rfl (by decide) dX5_send_41 ?_
    refine j_aload_10 dX5_send_43 ?_
    refine j_iconst (v := nI 0) dX5_send_45 nc_iconst_0 ?_
    refine j_iald dX5_send_46 hr.1 hr.2.1 (by omega) (by omega) ?_
    refine j_top (y := x.1) hr.2.2.1 ?_
    refine j_iload_n_1 dX5_send_47 ?_
    refine j_ic_ne (tgt := 63) dX5_send_48 (by decide) (fun h48 => ?_) (fun h48 => ?_)
    · refine j_iconst (v := nI 0) dX5_send_63 nc_iconst_0 ?_
      refine j_istore_11 rfl (by decide) dX5_send_64 ?_
      refine j_iload_11 dX5_send_66 ?_
      refine j_if_eq (tgt := 97) dX5_send_68 (by decide) (fun h68 => ?_) (fun h68 => ?_)
      · refine j_iload_11 dX5_send_97 ?_
        refine j_if_ne (tgt := 112) dX5_send_99 (by decide) (fun h99 => ?_) (fun h99 => ?_)
        · exact absurd rfl h99
        · refine j_aload_5 dX5_send_102 ?_
          refine j_iload_6 dX5_send_104 ?_
          refine j_aload_10 dX5_send_106 ?_
          refine jr_aastA dX5_send_108 hlk hln (by omega) (by omega) hr.1 (fun sh1 hst => ?_)
          refine j_inc1_6 rfl (by decide) dX5_send_109 ?_
          rw [show nI (lp.length + 1) = nI (lp ++ [x]).length by rw [List.length_append]; rfl]
          refine j_inc1_9 rfl (by decide) dX5_send_112 ?_
          refine j_goto (tgt := 29) dX5_send_115 (by decide) ?_
          refine ih (i + 1) (lp ++ [x]) _ _ _ (by omega) (by omega) (fun q hq => (hst.1 q hq).trans (hs q hq)) (hst.2.1.trans hlk) (hst.2.2.1.trans hln) (by rw [List.length_append]; simp; omega) (hRF.snoc (fun j hj => hst.2.2.2.1 j hj) hst.2.2.2.2 hen hE hr0) (fun y hy => by
            rcases take_mem hx hy with h9 | h9
            · exact hno y h9
            · rw [h9]
              exact (by unfold stE; rw [(show smE f κ x = false from decide_eq_false (fun c => h48 c.1))]; rfl)) ?_
          rw [← hFL, drop_cons hx, List.filter_cons_of_pos (by unfold nsm; rw [(show smE f κ x = false from decide_eq_false (fun c => h48 c.1))]; decide), List.append_assoc]
          rfl
      · exact absurd rfl h68
    · refine j_aload_10 dX5_send_51 ?_
      refine j_iconst (v := nI 2) dX5_send_53 nc_iconst_2 ?_
      refine j_iald dX5_send_54 hr.1 hr.2.1 (by omega) (by omega) ?_
      refine j_top (y := x.2.2.1) hr.2.2.2.2.1 ?_
      refine j_iload_n_3 dX5_send_55 ?_
      refine j_ic_ne (tgt := 63) dX5_send_56 (by decide) (fun h56 => ?_) (fun h56 => ?_)
      · refine j_iconst (v := nI 0) dX5_send_63 nc_iconst_0 ?_
        refine j_istore_11 rfl (by decide) dX5_send_64 ?_
        refine j_iload_11 dX5_send_66 ?_
        refine j_if_eq (tgt := 97) dX5_send_68 (by decide) (fun h68 => ?_) (fun h68 => ?_)
        · refine j_iload_11 dX5_send_97 ?_
          refine j_if_ne (tgt := 112) dX5_send_99 (by decide) (fun h99 => ?_) (fun h99 => ?_)
          · exact absurd rfl h99
          · refine j_aload_5 dX5_send_102 ?_
            refine j_iload_6 dX5_send_104 ?_
            refine j_aload_10 dX5_send_106 ?_
            refine jr_aastA dX5_send_108 hlk hln (by omega) (by omega) hr.1 (fun sh1 hst => ?_)
            refine j_inc1_6 rfl (by decide) dX5_send_109 ?_
            rw [show nI (lp.length + 1) = nI (lp ++ [x]).length by rw [List.length_append]; rfl]
            refine j_inc1_9 rfl (by decide) dX5_send_112 ?_
            refine j_goto (tgt := 29) dX5_send_115 (by decide) ?_
            refine ih (i + 1) (lp ++ [x]) _ _ _ (by omega) (by omega) (fun q hq => (hst.1 q hq).trans (hs q hq)) (hst.2.1.trans hlk) (hst.2.2.1.trans hln) (by rw [List.length_append]; simp; omega) (hRF.snoc (fun j hj => hst.2.2.2.1 j hj) hst.2.2.2.2 hen hE hr0) (fun y hy => by
              rcases take_mem hx hy with h9 | h9
              · exact hno y h9
              · rw [h9]
                exact (by unfold stE; rw [(show smE f κ x = false from decide_eq_false (fun c => h56 c.2))]; rfl)) ?_
            rw [← hFL, drop_cons hx, List.filter_cons_of_pos (by unfold nsm; rw [(show smE f κ x = false from decide_eq_false (fun c => h56 c.2))]; decide), List.append_assoc]
            rfl
        · exact absurd rfl h68
      · refine j_iconst (v := nI 1) dX5_send_59 nc_iconst_1 ?_
        refine j_goto (tgt := 64) dX5_send_60 (by decide) ?_
        refine j_istore_11 rfl (by decide) dX5_send_64 ?_
        refine j_iload_11 dX5_send_66 ?_
        refine j_if_eq (tgt := 97) dX5_send_68 (by decide) (fun h68 => ?_) (fun h68 => ?_)
        · exact absurd h68 (by decide +kernel)
        · refine j_aload_10 dX5_send_71 ?_
          refine j_iconst (v := nI 1) dX5_send_73 nc_iconst_1 ?_
          refine j_iald dX5_send_74 hr.1 hr.2.1 (by omega) (by omega) ?_
          refine j_top (y := x.2.1) hr.2.2.2.1 ?_
          refine j_iload_n_2 dX5_send_75 ?_
          refine j_ic_lt (tgt := 96) dX5_send_76 (by decide) (fun h76 => ?_) (fun h76 => ?_)
          · exact j_vret hM dX5_send_96 rfl (hTe sh hs x (List.mem_of_getElem? hx) (by unfold stE; rw [(show smE f κ x = true from decide_eq_true ⟨h48, h56⟩), decide_eq_true h76]; rfl))
          · refine j_aload_10 dX5_send_79 ?_
            refine j_iconst (v := nI 1) dX5_send_81 nc_iconst_1 ?_
            refine j_iald dX5_send_82 hr.1 hr.2.1 (by omega) (by omega) ?_
            refine j_top (y := x.2.1) hr.2.2.2.1 ?_
            refine j_iload_n_2 dX5_send_83 ?_
            refine j_ic_ne (tgt := 97) dX5_send_84 (by decide) (fun h84 => ?_) (fun h84 => ?_)
            · refine j_iload_11 dX5_send_97 ?_
              refine j_if_ne (tgt := 112) dX5_send_99 (by decide) (fun h99 => ?_) (fun h99 => ?_)
              · refine j_inc1_9 rfl (by decide) dX5_send_112 ?_
                refine j_goto (tgt := 29) dX5_send_115 (by decide) ?_
                refine ih (i + 1) lp _ _ _ (by omega) (by omega) hs hlk hln (by omega) hRF (fun y hy => by
                  rcases take_mem hx hy with h9 | h9
                  · exact hno y h9
                  · rw [h9]
                    exact (by unfold stE; rw [(show smE f κ x = true from decide_eq_true ⟨h48, h56⟩), decide_eq_false h76, decide_eq_false h84]; rfl)) ?_
                rw [← hFL, drop_cons hx, List.filter_cons_of_neg (by unfold nsm; rw [(show smE f κ x = true from decide_eq_true ⟨h48, h56⟩)]; decide)]
              · exact absurd h99 (by decide +kernel)
            · refine j_aload_10 dX5_send_87 ?_
              refine j_iconst (v := nI 3) dX5_send_89 nc_iconst_3 ?_
              refine j_iald dX5_send_90 hr.1 hr.2.1 (by omega) (by omega) ?_
              refine j_top (y := x.2.2.2) hr.2.2.2.2.2 ?_
              refine j_iload_4 dX5_send_91 ?_
              refine j_ic_gt (tgt := 97) dX5_send_93 (by decide) (fun h93 => ?_) (fun h93 => ?_)
              · refine j_iload_11 dX5_send_97 ?_
                refine j_if_ne (tgt := 112) dX5_send_99 (by decide) (fun h99 => ?_) (fun h99 => ?_)
                · refine j_inc1_9 rfl (by decide) dX5_send_112 ?_
                  refine j_goto (tgt := 29) dX5_send_115 (by decide) ?_
                  refine ih (i + 1) lp _ _ _ (by omega) (by omega) hs hlk hln (by omega) hRF (fun y hy => by
                    rcases take_mem hx hy with h9 | h9
                    · exact hno y h9
                    · rw [h9]
                      exact (by unfold stE; rw [(show smE f κ x = true from decide_eq_true ⟨h48, h56⟩), decide_eq_false h76, decide_eq_true h84, decide_eq_false (fun c => Int32.lt_irrefl (Int32.lt_of_lt_of_le h93 c))]; rfl)) ?_
                  rw [← hFL, drop_cons hx, List.filter_cons_of_neg (by unfold nsm; rw [(show smE f κ x = true from decide_eq_true ⟨h48, h56⟩)]; decide)]
                · exact absurd h99 (by decide +kernel)
              · exact j_vret hM dX5_send_96 rfl (hTe sh hs x (List.mem_of_getElem? hx) (by unfold stE; rw [(show smE f κ x = true from decide_eq_true ⟨h48, h56⟩), decide_eq_true h84, decide_eq_true (Int32.not_lt.mp h93)]; simp))

set_option maxHeartbeats 4000000 in
set_option maxRecDepth 100000 in
theorem c_send_2 {g : jv_G} {X : jv_X} {T : jv_T} {n : Nat} {L : Nat → Nat → Int64} {k z : Nat} {V : Nat → Nat → Int32} {f h κ mm : Int32} {c0 : Nat} {p lf w2 cnt M : Nat} {sh1 : Nat → jv_S} (hp : (sh1 p).1 = 6) (hp8 : (sh1 p).2.2 8 = some w2) (hpw2 : p ≠ w2) (hlk0 : (sh1 lf).1 = 15) (hln0 : (sh1 lf).2.1 = M) (hM : cnt ≤ M) (hM2 : M ≤ 25) (hlw2 : lf ≠ w2) (hR : ∀ j, j < cnt → ∃ e, (sh1 lf).2.2 j = some e ∧ (sh1 e).1 = 10 ∧ e ≠ w2) (hMM : jv_M g X T) (hc0 : cnt = c0 + 1) (hT : ∀ sh', (∀ q, q ≠ w2 → sh' q = sh1 q) → (sh' w2).1 = 15 → (sh' w2).2.1 = cnt → (∀ j, j < cnt → (sh' w2).2.2 j = (sh1 lf).2.2 j) → T (.inl none) n sh' V L) : ∀ (m : Nat) (i : Nat) (sh : Nat → jv_S) (v8 v9 v10 v11 : Option Value), i ≤ cnt → cnt + 1 ≤ i + m → (∀ q, q ≠ w2 → sh q = sh1 q) → (sh w2).1 = 15 → (sh w2).2.1 = cnt → (∀ j, j < i → (sh w2).2.2 j = (sh1 lf).2.2 j) → jv_J g X I_X5_send 157 [some (jv_r g p), some (.int f), some (.int h), some (.int κ), some (.int mm), some (jv_r g lf), some (.int (nI c0)), some (.int (nI i)), v8, v9, v10, v11] [] n sh V L k z := by
  intro m
  induction m with
  | zero => intro i sh v8 v9 v10 v11 hi hm hs hw1 hw2 hrf; omega
  | succ m ih =>
  intro i sh v8 v9 v10 v11 hi hm hs hw1 hw2 hrf
  refine j_iload_7 dX5_send_157 ?_
  refine j_iload_6 dX5_send_159 ?_
  refine j_ic_gtN (by omega) (by omega) (tgt := 182) dX5_send_161 (by decide) (fun h161 => ?_) (fun h161 => ?_)
  · obtain rfl : i = cnt := by omega
    exact j_vret hMM dX5_send_182 rfl (hT sh hs hw1 hw2 hrf)
  · obtain ⟨e, he0, hek0, hew⟩ := hR i (by omega)
    have hpk : (sh p).1 = 6 := by rw [hs p hpw2]; exact hp
    have hpw : (sh p).2.2 8 = some w2 := by rw [hs p hpw2]; exact hp8
    have hlk : (sh lf).1 = 15 := by rw [hs lf hlw2]; exact hlk0
    have hln : (sh lf).2.1 = M := by rw [hs lf hlw2]; exact hln0
    have he : (sh lf).2.2 i = some e := by rw [hs lf hlw2]; exact he0
    have hek : (sh e).1 = 10 := by rw [hs e hew]; exact hek0
    refine j_aload_n_0 dX5_send_164 ?_
    refine G_X5_9 rfl dX5_send_165 hpk hpw ?_
    refine j_iload_7 dX5_send_168 ?_
    refine j_aload_5 dX5_send_170 ?_
    refine j_iload_7 dX5_send_172 ?_
    refine jr_aaldA dX5_send_174 hlk hln (by omega) (by omega) he ?_
    refine jr_aastA dX5_send_175 hw1 hw2 (by omega) (by omega) hek (fun sh2 hst => ?_)
    refine j_inc1_7 rfl (by decide) dX5_send_176 ?_
    refine j_goto (tgt := 157) dX5_send_179 (by decide) ?_
    refine ih (i + 1) sh2 _ _ _ _ (by omega) (by omega) (fun q hq => (hst.1 q hq).trans (hs q hq)) (hst.2.1.trans hw1) (hst.2.2.1.trans hw2) (fun j hj => ?_)
    by_cases e2 : j = i
    · rw [e2, hst.2.2.2.2, he0]
    · rw [hst.2.2.2.1 j e2]
      exact hrf j (by omega)

set_option maxHeartbeats 4000000 in
set_option maxRecDepth 100000 in
theorem c_send {g : jv_G} {X : jv_X} {T : jv_T} {n : Nat} {sh : Nat → jv_S} {V : Nat → Nat → Int32} {L : Nat → Nat → Int64} {k z : Nat} {E : Nat → Prop} {p w : Nat} {l : List WE} (hp : (sh p).1 = 6) (hpn : p < n) (hw : (sh p).2.2 8 = some w) (hW : WL E n sh V w l) (hl : l.length ≤ 24) {f h κ m0 : Int32} (hk : 3 ≤ k) (hz : 60 ≤ z) (hM : jv_M g X T) (hT : ∀ n1 s1 V1, SP n sh V E p w l f h κ m0 n1 s1 V1 → T (.inl none) n1 s1 V1 L) : jv_J g X I_X5_send 0 [some (jv_r g p), some (.int f), some (.int h), some (.int κ), some (.int m0), none, none, none, none, none, none, none] [] n sh V L k z := by
  refine j_aload_n_0 dX5_send_0 ?_
  refine G_X5_9 rfl dX5_send_1 hp hw ?_
  refine jr_alenA dX5_send_4 hW.1 hW.2.1 ?_
  refine j_iconst (v := nI 1) dX5_send_5 nc_iconst_1 ?_
  refine j_iaddN dX5_send_6 ?_
  refine jr_anewA (jv_gwm 570 (by decide +kernel) rfl) dX5_send_7 (by omega) (k2 := k - 1) (z2 := z - 1 - l.length) (by omega) (by omega) (fun sh2 hw2 => ?_)
  have hs2 : ∀ q, q ≠ n → sh2 q = sh q := fun q hq => (hw2.1 q hq).1
  have hwn := hW.2.2.1
  have hp2 : (sh2 p).1 = 6 := by rw [hs2 p (by omega)]; exact hp
  have hp28 : (sh2 p).2.2 8 = some w := by rw [hs2 p (by omega)]; exact hw
  have hwk2 : (sh2 w).1 = 15 := by rw [hs2 w (by omega)]; exact hW.1
  have hwn2 : (sh2 w).2.1 = l.length := by rw [hs2 w (by omega)]; exact hW.2.1
  refine j_astore_5 rfl (by decide) dX5_send_10 ?_
  refine j_iconst (v := nI 0) dX5_send_12 nc_iconst_0 ?_
  refine j_istore_6 rfl (by decide) dX5_send_13 ?_
  refine j_aload_n_0 dX5_send_15 ?_
  refine G_X5_9 rfl dX5_send_16 hp2 hp28 ?_
  refine j_astore_7 rfl (by decide) dX5_send_19 ?_
  refine j_aload_7 dX5_send_21 ?_
  refine jr_alenA dX5_send_23 hwk2 hwn2 ?_
  refine j_istore_8 rfl (by decide) dX5_send_24 ?_
  refine j_iconst (v := nI 0) dX5_send_26 nc_iconst_0 ?_
  refine j_istore_9 rfl (by decide) dX5_send_27 ?_
  have hWn : WL (fun e => E e ∧ e < n) (n + 1) sh2 V w l := ⟨hwk2, hwn2, by omega, hW.rf.mono (fun j _ => by rw [hs2 w (by omega)]) (by omega) (fun e h1 h2 => ⟨h2, h1⟩) (fun e h1 h2 _ => ⟨by rw [hs2 e (by omega)], rfl⟩)⟩
  have hany : ∀ b : Bool, (∀ y ∈ l, stE f h κ m0 y = false) → l.any (stE f h κ m0) = false := fun _ h9 => by
    rw [List.any_eq_false]
    intro y hy
    rw [h9 y hy]
    decide
  refine c_send_1 (p := p) (lf := n) (FL := l.filter (nsm f κ)) hWn hl (by omega) (fun e he => by omega) hM (fun sh' hs' x hx hst => ?_) ?_ (l.length + 1) 0 [] sh2 _ _ (by omega) (by omega) (fun q _ => rfl) (by rw [hw2.2.1]) (by rw [hw2.2.1]) (by simp) RF.nil (fun y hy => by simp at hy) rfl
  · refine hT _ _ _ ⟨by omega, fun q hq _ => by rw [hs' q (by omega), hs2 q (by omega)], fun q _ => rfl, by rw [hs' p (by omega)]; exact hp2, fun j _ => by rw [hs' p (by omega), hs2 p (by omega)], w, by rw [hs' p (by omega)]; exact hp28, ?_, Or.inl rfl⟩
    unfold sendL
    rw [if_pos (List.any_eq_true.mpr ⟨x, hx, hst⟩)]
    exact ⟨by rw [hs' w (by omega)]; exact hwk2, by rw [hs' w (by omega)]; exact hwn2, by omega, hWn.rf.mono (fun j _ => by rw [hs' w (by omega)]) (by omega) (fun e _ he => Or.inl he.1) (fun e _ he _ => ⟨hs' e (by omega), rfl⟩)⟩
  intro sh3 v10 v11 hs3 hlk3 hln3 hRF3 hno
  have hsend : sendL l f h κ m0 = l.filter (nsm f κ) ++ [(f, h, κ, m0)] := by
    unfold sendL
    rw [if_neg (by rw [hany true hno]; decide)]
  have hp3 : (sh3 p).1 = 6 := by rw [hs3 p (by omega)]; exact hp2
  have hcl3 : (l.filter (nsm f κ)).length ≤ l.length := List.length_filter_le _ _
  refine j_aload_5 dX5_send_118 ?_
  refine j_iload_6 dX5_send_120 ?_
  refine j_iconst (v := nI 4) dX5_send_122 nc_iconst_4 ?_
  refine jr_newI (jv_gwm 64 (by decide +kernel) rfl) dX5_send_123 (by omega) (k2 := k - 2) (z2 := z - 30) (by omega) (by omega) (fun sh4 V4 hw4 => ?_)
  have hs4 : ∀ q, q ≠ n + 1 → sh4 q = sh3 q := fun q hq => (hw4.1 q hq).1
  have hV4 : ∀ q, q ≠ n + 1 → V4 q = V q := fun q hq => (hw4.1 q hq).2
  have hk4 : (sh4 (n + 1)).1 = 10 := by rw [hw4.2.1]
  have hn4 : (sh4 (n + 1)).2.1 = 4 := by rw [hw4.2.1]
  have hlk4 : (sh4 n).1 = 15 := by rw [hs4 n (by omega)]; exact hlk3
  have hln4 : (sh4 n).2.1 = l.length + 1 := by rw [hs4 n (by omega)]; exact hln3
  refine j_dup rfl dX5_send_125 ?_
  refine j_iconst (v := nI 0) dX5_send_126 nc_iconst_0 ?_
  refine j_iload_n_1 dX5_send_127 ?_
  refine j_iast dX5_send_128 hk4 hn4 (by omega) (by omega) ?_
  refine j_dup rfl dX5_send_129 ?_
  refine j_iconst (v := nI 1) dX5_send_130 nc_iconst_1 ?_
  refine j_iload_n_2 dX5_send_131 ?_
  refine j_iast dX5_send_132 hk4 hn4 (by omega) (by omega) ?_
  refine j_dup rfl dX5_send_133 ?_
  refine j_iconst (v := nI 2) dX5_send_134 nc_iconst_2 ?_
  refine j_iload_n_3 dX5_send_135 ?_
  refine j_iast dX5_send_136 hk4 hn4 (by omega) (by omega) ?_
  refine j_dup rfl dX5_send_137 ?_
  refine j_iconst (v := nI 3) dX5_send_138 nc_iconst_3 ?_
  refine j_iload_4 dX5_send_139 ?_
  refine j_iast dX5_send_141 hk4 hn4 (by omega) (by omega) ?_
  refine jr_aastA dX5_send_142 hlk4 hln4 (by omega) (by omega) hk4 (fun sh5 hst5 => ?_)
  have hp5 : (sh5 p).1 = 6 := by rw [hst5.k, hs4 p (by omega)]; exact hp3
  refine j_aload_n_0 dX5_send_143 ?_
  refine j_iload_6 dX5_send_144 ?_
  refine j_iconst (v := nI 1) dX5_send_146 nc_iconst_1 ?_
  refine j_iaddN dX5_send_147 ?_
  refine jr_anewA (jv_gwm 570 (by decide +kernel) rfl) dX5_send_148 (by omega) (k2 := k - 3) (z2 := z - 56) (by omega) (by omega) (fun sh6 hw6 => ?_)
  have hs6 : ∀ q, q ≠ n + 2 → sh6 q = sh5 q := fun q hq => (hw6.1 q hq).1
  have hp6 : (sh6 p).1 = 6 := by rw [hs6 p (by omega)]; exact hp5
  refine P_X5_9 rfl dX5_send_151 hp6 ?_
  refine j_iconst (v := nI 0) dX5_send_154 nc_iconst_0 ?_
  refine j_istore_7 rfl (by decide) dX5_send_155 ?_
  have hr5 : rowAt sh5 (jv_U (jv_U (jv_U (jv_U V4 (n + 1) 0 f) (n + 1) 1 h) (n + 1) 2 κ) (n + 1) 3 m0) (n + 1) (f, h, κ, m0) := by
    refine ⟨by rw [hst5.k]; exact hk4, by rw [hst5.n]; exact hn4, ?_, ?_, ?_, ?_⟩
    · rw [jv_Unj (by decide), jv_Unj (by decide), jv_Unj (by decide), jv_Ueq]
    · rw [jv_Unj (by decide), jv_Unj (by decide), jv_Ueq]
    · rw [jv_Unj (by decide), jv_Ueq]
    · rw [jv_Ueq]
  have hVU : ∀ q, q < n + 1 → jv_U (jv_U (jv_U (jv_U V4 (n + 1) 0 f) (n + 1) 1 h) (n + 1) 2 κ) (n + 1) 3 m0 q = V q := fun q hq => by
    rw [jv_U_other (by omega), jv_U_other (by omega), jv_U_other (by omega), jv_U_other (by omega), hV4 q (by omega)]
  generalize jv_U (jv_U (jv_U (jv_U V4 (n + 1) 0 f) (n + 1) 1 h) (n + 1) 2 κ) (n + 1) 3 m0 = V5 at hr5 hVU ⊢
  have hRF5 : RF (fun e => E e ∨ n ≤ e) (n + 2) sh5 V5 (sh5 n).2.2 (l.filter (nsm f κ) ++ [(f, h, κ, m0)]) := by
    refine RF.snoc (r := (sh3 n).2.2) (e := n + 1) ?_ (fun j hj => ?_) hst5.2.2.2.2 (by omega) (Or.inr (by omega)) hr5
    · refine hRF3.mono (fun j _ => rfl) (by omega) (fun e _ he => Or.inl he.1) (fun e _ he _ => ⟨?_, ?_⟩)
      · rw [hst5.1 e (by omega), hs4 e (by omega), hs3 e (by omega)]
      · exact hVU e (by omega)
    · rw [hst5.2.2.2.1 j hj, hs4 n (by omega)]
  refine c_send_2 (p := p) (lf := n) (w2 := n + 2) (c0 := (l.filter (nsm f κ)).length) (cnt := (l.filter (nsm f κ)).length + 1) (M := l.length + 1) (sh1 := jv_US sh6 p 8 (n + 2)) (by rw [US_1]; exact hp6) US_eq (by omega) (by rw [US_1, hs6 _ (by omega), hst5.k]; exact hlk4) (by rw [US_2, hs6 _ (by omega), hst5.n]; exact hln4) (by omega) (by omega) (by omega) (fun j hj => ?_) hM rfl ?_ ((l.filter (nsm f κ)).length + 2) 0 (jv_US sh6 p 8 (n + 2)) _ _ _ _ (by omega) (by omega) (fun q _ => rfl) (by rw [US_1, hw6.2.1]) (by rw [US_2, hw6.2.1]) (fun j hj => absurd hj (by omega))
  · obtain ⟨e, a1, a2, a3, a4⟩ := hRF5 j _ (List.getElem?_eq_getElem (by rw [List.length_append]; exact hj))
    exact ⟨e, by rw [jv_US_other (by omega), hs6 _ (by omega)]; exact a1, by rw [US_1, hs6 e (by omega)]; exact a4.1, by omega⟩
  · intro sh7 b1 b2 b3 b4
    refine hT _ _ _ ⟨by omega, fun q hq hqp => ?_, fun q hq => hVU q (by omega), ?_, fun j hj => ?_, n + 2, ?_, ⟨b2, ?_, by omega, ?_⟩, Or.inr (by omega)⟩
    · rw [b1 q (by omega), jv_US_other hqp, hs6 q (by omega), hst5.1 q (by omega), hs4 q (by omega), hs3 q (by omega), hs2 q (by omega)]
    · rw [b1 p (by omega), US_1]; exact hp6
    · rw [b1 p (by omega), US_nej hj, hs6 p (by omega), hst5.1 p (by omega), hs4 p (by omega), hs3 p (by omega), hs2 p (by omega)]
    · rw [b1 p (by omega)]; exact US_eq
    · rw [b3, hsend, List.length_append]; rfl
    · rw [hsend]
      refine hRF5.mono (fun j hj => ?_) (by omega) (fun e _ he => he) (fun e he2 he h10 => ⟨?_, rfl⟩)
      · rw [b4 j (by rw [List.length_append] at hj; exact hj), jv_US_other (by omega), hs6 _ (by omega)]
      · have hep : e ≠ p := by
          intro c
          rw [c, hp5] at h10
          exact absurd h10 (by decide)
        rw [b1 e (by omega), jv_US_other hep, hs6 e (by omega)]

/-- a new rumour of the law at the place p: its rows are the next seven places -/
def NP (n : Nat) (sh : Nat → jv_S) (V : Nat → Nat → Int32) (p N : Nat) (n1 : Nat) (s1 : Nat → jv_S) (V1 : Nat → Nat → Int32) : Prop := n1 = n + 7 ∧ (∀ q, q < n → q ≠ p → s1 q = sh q) ∧ (∀ q, q < n → V1 q = V q) ∧ (s1 p).1 = 6 ∧ (∀ o, 1 ≤ o → o ≤ 6 → (s1 p).2.2 (o + 1) = some (n + o) ∧ (s1 (n + o)).1 = 10 ∧ (s1 (n + o)).2.1 = N ∧ ∀ f, f < N → V1 (n + o) f = if o = 1 then 0 else -1) ∧ (s1 p).2.2 8 = some n ∧ (s1 n).1 = 15 ∧ (s1 n).2.1 = 0
theorem OI_X5 {g : jv_G} {X : jv_X} {I : jv_I} {pc n : Nat} {ls : List (Option Value)} {st : List Value} {sh : Nat → jv_S} {V : Nat → Nat → Int32} {L : Nat → Nat → Int64} {k z q : Nat} (hI : jo I = RX5) (hlv : 1 ≤ jd I) (d : decode (jb I) pc = .ok (.invokespecial 1, 3)) (hcat : (st.map fun v => v.category).sum ≤ 8) (kk : jv_J g X I (pc + 3) ls st n sh V L k z) : jv_J g X I pc ls (jv_r g q :: st) n sh V L k z :=
  j_objInit (by rw [hI]; exact (jv_gwm 731 (by decide +kernel) rfl)) (jv_gwm 35 (by decide +kernel) rfl) (jv_gwm 36 (by decide +kernel) rfl) hlv d hcat kk
theorem OI_X6 {g : jv_G} {X : jv_X} {I : jv_I} {pc n : Nat} {ls : List (Option Value)} {st : List Value} {sh : Nat → jv_S} {V : Nat → Nat → Int32} {L : Nat → Nat → Int64} {k z q : Nat} (hI : jo I = RX6) (hlv : 1 ≤ jd I) (d : decode (jb I) pc = .ok (.invokespecial 1, 3)) (hcat : (st.map fun v => v.category).sum ≤ 8) (kk : jv_J g X I (pc + 3) ls st n sh V L k z) : jv_J g X I pc ls (jv_r g q :: st) n sh V L k z :=
  j_objInit (by rw [hI]; exact (jv_gwm 795 (by decide +kernel) rfl)) (jv_gwm 35 (by decide +kernel) rfl) (jv_gwm 36 (by decide +kernel) rfl) hlv d hcat kk
set_option maxHeartbeats 4000000 in
set_option maxRecDepth 100000 in
theorem c_newR {g : jv_G} {X : jv_X} {T : jv_T} {n : Nat} {sh : Nat → jv_S} {V : Nat → Nat → Int32} {L : Nat → Nat → Int64} {k z : Nat} {p N : Nat} (hp : (sh p).1 = 6) (hpn : p < n) (hN : N ≤ 12) (hk : 7 ≤ k) (hz : 80 ≤ z) (hM : jv_M g X T) (hT : ∀ n1 s1 V1, NP n sh V p N n1 s1 V1 → T (.inl none) n1 s1 V1 L) : jv_J g X I_X5_init 0 [some (jv_r g p), some (.int (nI N))] [] n sh V L k z := by
  refine j_aload_n_0 dX5_init_0 ?_
  refine OI_X5 rfl (by decide) dX5_init_1 (Nat.le_of_ble_eq_true rfl) ?_
  refine j_aload_n_0 dX5_init_4 ?_
  refine j_iconst (v := nI 0) dX5_init_5 nc_iconst_0 ?_
  refine jr_anewA (jv_gwm 570 (by decide +kernel) rfl) dX5_init_6 (by omega) (k2 := k - 1) (z2 := z) (by omega) (by omega) (fun sh1 hw1 => ?_)
  have hs1 : ∀ q, q ≠ n → sh1 q = sh q := fun q hq => (hw1.1 q hq).1
  have hp1 : (sh1 p).1 = 6 := by rw [hs1 p (by omega)]; exact hp
  refine P_X5_9 rfl dX5_init_9 hp1 ?_
  have hp1b : (jv_US sh1 p 8 n p).1 = 6 := by rw [US_1]; exact hp1
  refine j_aload_n_0 dX5_init_12 ?_
  refine j_iload_n_1 dX5_init_13 ?_
  refine jr_newI (jv_gwm 64 (by decide +kernel) rfl) dX5_init_14 (by omega) (k2 := k - 2) (z2 := z - 12) (by omega) (by omega) (fun sh2 V2 hw2 => ?_)
  have hs2 : ∀ q, q ≠ n + 1 → sh2 q = jv_US sh1 p 8 n q ∧ V2 q = V q := hw2.1
  have hp2 : (sh2 p).1 = 6 := by rw [(hs2 p (by omega)).1, US_1]; exact hp1
  refine P_X5_15 rfl dX5_init_16 hp2 ?_
  have p1b : (jv_US sh2 p 2 (n + 1) p).1 = 6 := by rw [US_1]; exact hp2
  refine j_aload_n_0 dX5_init_19 ?_
  refine j_iload_n_1 dX5_init_20 ?_
  refine Q_X5_18  rfl (by decide) dX5_init_21 (Nat.le_of_ble_eq_true rfl) (k' := 1) (k2 := k - 3) (by omega) (z' := 12) (z2 := z - 24) (by omega) (fun _ _ hM' hT' => c_none (N := N) hN (by omega) (by omega) hM' hT') (fun m2 s2 W2 hQ2 => ?_)
  obtain ⟨rfl, g2⟩ := hQ2
  have f2 : ∀ q, q ≠ n + 2 → s2 q = jv_US sh2 p 2 (n + 1) q ∧ W2 q = V2 q := g2.1
  have p2 : (s2 p).1 = 6 := by rw [(f2 p (by omega)).1, US_1]; exact hp2
  refine P_X5_22 rfl dX5_init_24 p2 ?_
  have p2b : (jv_US s2 p 3 (n + 2) p).1 = 6 := by rw [US_1]; exact p2
  refine j_aload_n_0 dX5_init_27 ?_
  refine j_iload_n_1 dX5_init_28 ?_
  refine Q_X5_18  rfl (by decide) dX5_init_29 (Nat.le_of_ble_eq_true rfl) (k' := 1) (k2 := k - 4) (by omega) (z' := 12) (z2 := z - 36) (by omega) (fun _ _ hM' hT' => c_none (N := N) hN (by omega) (by omega) hM' hT') (fun m3 s3 W3 hQ3 => ?_)
  obtain ⟨rfl, g3⟩ := hQ3
  have f3 : ∀ q, q ≠ n + 3 → s3 q = jv_US s2 p 3 (n + 2) q ∧ W3 q = W2 q := g3.1
  have p3 : (s3 p).1 = 6 := by rw [(f3 p (by omega)).1, US_1]; exact p2
  refine P_X5_25 rfl dX5_init_32 p3 ?_
  have p3b : (jv_US s3 p 4 (n + 3) p).1 = 6 := by rw [US_1]; exact p3
  refine j_aload_n_0 dX5_init_35 ?_
  refine j_iload_n_1 dX5_init_36 ?_
  refine Q_X5_18  rfl (by decide) dX5_init_37 (Nat.le_of_ble_eq_true rfl) (k' := 1) (k2 := k - 5) (by omega) (z' := 12) (z2 := z - 48) (by omega) (fun _ _ hM' hT' => c_none (N := N) hN (by omega) (by omega) hM' hT') (fun m4 s4 W4 hQ4 => ?_)
  obtain ⟨rfl, g4⟩ := hQ4
  have f4 : ∀ q, q ≠ n + 4 → s4 q = jv_US s3 p 4 (n + 3) q ∧ W4 q = W3 q := g4.1
  have p4 : (s4 p).1 = 6 := by rw [(f4 p (by omega)).1, US_1]; exact p3
  refine P_X5_28 rfl dX5_init_40 p4 ?_
  have p4b : (jv_US s4 p 5 (n + 4) p).1 = 6 := by rw [US_1]; exact p4
  refine j_aload_n_0 dX5_init_43 ?_
  refine j_iload_n_1 dX5_init_44 ?_
  refine Q_X5_18  rfl (by decide) dX5_init_45 (Nat.le_of_ble_eq_true rfl) (k' := 1) (k2 := k - 6) (by omega) (z' := 12) (z2 := z - 60) (by omega) (fun _ _ hM' hT' => c_none (N := N) hN (by omega) (by omega) hM' hT') (fun m5 s5 W5 hQ5 => ?_)
  obtain ⟨rfl, g5⟩ := hQ5
  have f5 : ∀ q, q ≠ n + 5 → s5 q = jv_US s4 p 5 (n + 4) q ∧ W5 q = W4 q := g5.1
  have p5 : (s5 p).1 = 6 := by rw [(f5 p (by omega)).1, US_1]; exact p4
  refine P_X5_31 rfl dX5_init_48 p5 ?_
  have p5b : (jv_US s5 p 6 (n + 5) p).1 = 6 := by rw [US_1]; exact p5
  refine j_aload_n_0 dX5_init_51 ?_
  refine j_iload_n_1 dX5_init_52 ?_
  refine Q_X5_18  rfl (by decide) dX5_init_53 (Nat.le_of_ble_eq_true rfl) (k' := 1) (k2 := k - 7) (by omega) (z' := 12) (z2 := z - 72) (by omega) (fun _ _ hM' hT' => c_none (N := N) hN (by omega) (by omega) hM' hT') (fun m6 s6 W6 hQ6 => ?_)
  obtain ⟨rfl, g6⟩ := hQ6
  have f6 : ∀ q, q ≠ n + 6 → s6 q = jv_US s5 p 6 (n + 5) q ∧ W6 q = W5 q := g6.1
  have p6 : (s6 p).1 = 6 := by rw [(f6 p (by omega)).1, US_1]; exact p5
  refine P_X5_34 rfl dX5_init_56 p6 ?_
  refine j_vret hM dX5_init_59 rfl ?_
  have wit : ∀ q, q ≠ p → (∀ o, 2 ≤ o → o ≤ 6 → q ≠ n + o) → jv_US s6 p 7 (n + 6) q = sh2 q ∧ W6 q = V2 q := fun q h1 h2 => by
    rw [jv_US_other h1, (f6 q (h2 6 (by omega) (by omega))).1, (f6 q (h2 6 (by omega) (by omega))).2, jv_US_other h1, (f5 q (h2 5 (by omega) (by omega))).1, (f5 q (h2 5 (by omega) (by omega))).2, jv_US_other h1, (f4 q (h2 4 (by omega) (by omega))).1, (f4 q (h2 4 (by omega) (by omega))).2, jv_US_other h1, (f3 q (h2 3 (by omega) (by omega))).1, (f3 q (h2 3 (by omega) (by omega))).2, jv_US_other h1, (f2 q (h2 2 (by omega) (by omega))).1, (f2 q (h2 2 (by omega) (by omega))).2, jv_US_other h1]
    exact ⟨rfl, rfl⟩
  have e1 : jv_US s6 p 7 (n + 6) (n + 1) = (10, N, fun _ => none) ∧ W6 (n + 1) = fun _ => 0 := by
    rw [(wit (n + 1) (by omega) (fun o h1 h2 => by omega)).1, (wit (n + 1) (by omega) (fun o h1 h2 => by omega)).2]
    exact hw2.2
  have e2 : jv_US s6 p 7 (n + 6) (n + 2) = (10, N, fun _ => none) ∧ W6 (n + 2) = fun j => if j < N then -1 else 0 := by
    rw [jv_US_other (by omega), (f6 (n + 2) (by omega)).1, (f6 (n + 2) (by omega)).2, jv_US_other (by omega), (f5 (n + 2) (by omega)).1, (f5 (n + 2) (by omega)).2, jv_US_other (by omega), (f4 (n + 2) (by omega)).1, (f4 (n + 2) (by omega)).2, jv_US_other (by omega), (f3 (n + 2) (by omega)).1, (f3 (n + 2) (by omega)).2, jv_US_other (by omega)]
    exact g2.2
  have e3 : jv_US s6 p 7 (n + 6) (n + 3) = (10, N, fun _ => none) ∧ W6 (n + 3) = fun j => if j < N then -1 else 0 := by
    rw [jv_US_other (by omega), (f6 (n + 3) (by omega)).1, (f6 (n + 3) (by omega)).2, jv_US_other (by omega), (f5 (n + 3) (by omega)).1, (f5 (n + 3) (by omega)).2, jv_US_other (by omega), (f4 (n + 3) (by omega)).1, (f4 (n + 3) (by omega)).2, jv_US_other (by omega)]
    exact g3.2
  have e4 : jv_US s6 p 7 (n + 6) (n + 4) = (10, N, fun _ => none) ∧ W6 (n + 4) = fun j => if j < N then -1 else 0 := by
    rw [jv_US_other (by omega), (f6 (n + 4) (by omega)).1, (f6 (n + 4) (by omega)).2, jv_US_other (by omega), (f5 (n + 4) (by omega)).1, (f5 (n + 4) (by omega)).2, jv_US_other (by omega)]
    exact g4.2
  have e5 : jv_US s6 p 7 (n + 6) (n + 5) = (10, N, fun _ => none) ∧ W6 (n + 5) = fun j => if j < N then -1 else 0 := by
    rw [jv_US_other (by omega), (f6 (n + 5) (by omega)).1, (f6 (n + 5) (by omega)).2, jv_US_other (by omega)]
    exact g5.2
  have e6 : jv_US s6 p 7 (n + 6) (n + 6) = (10, N, fun _ => none) ∧ W6 (n + 6) = fun j => if j < N then -1 else 0 := by
    rw [jv_US_other (by omega)]
    exact g6.2
  have r1 : (jv_US s6 p 7 (n + 6) p).2.2 2 = some (n + 1) := by
    rw [US_nej (by decide), (f6 p (by omega)).1, US_nej (by decide), (f5 p (by omega)).1, US_nej (by decide), (f4 p (by omega)).1, US_nej (by decide), (f3 p (by omega)).1, US_nej (by decide), (f2 p (by omega)).1]
    exact US_eq
  have r2 : (jv_US s6 p 7 (n + 6) p).2.2 3 = some (n + 2) := by
    rw [US_nej (by decide), (f6 p (by omega)).1, US_nej (by decide), (f5 p (by omega)).1, US_nej (by decide), (f4 p (by omega)).1, US_nej (by decide), (f3 p (by omega)).1]
    exact US_eq
  have r3 : (jv_US s6 p 7 (n + 6) p).2.2 4 = some (n + 3) := by
    rw [US_nej (by decide), (f6 p (by omega)).1, US_nej (by decide), (f5 p (by omega)).1, US_nej (by decide), (f4 p (by omega)).1]
    exact US_eq
  have r4 : (jv_US s6 p 7 (n + 6) p).2.2 5 = some (n + 4) := by
    rw [US_nej (by decide), (f6 p (by omega)).1, US_nej (by decide), (f5 p (by omega)).1]
    exact US_eq
  have r5 : (jv_US s6 p 7 (n + 6) p).2.2 6 = some (n + 5) := by
    rw [US_nej (by decide), (f6 p (by omega)).1]
    exact US_eq
  have r6 : (jv_US s6 p 7 (n + 6) p).2.2 7 = some (n + 6) := by
    exact US_eq
  have r8 : (jv_US s6 p 7 (n + 6) p).2.2 8 = some n := by
    rw [US_nej (by decide), (f6 p (by omega)).1, US_nej (by decide), (f5 p (by omega)).1, US_nej (by decide), (f4 p (by omega)).1, US_nej (by decide), (f3 p (by omega)).1, US_nej (by decide), (f2 p (by omega)).1, US_nej (by decide), (hs2 p (by omega)).1]
    exact US_eq
  refine hT _ _ _ ⟨rfl, fun q hq hqp => ?_, fun q hq => ?_, ?_, fun o h1 h2 => ?_, r8, ?_, ?_⟩
  · rw [(wit q hqp (fun o h1 h2 => by omega)).1, (hs2 q (by omega)).1, jv_US_other hqp, hs1 q (by omega)]
  · by_cases hqp : q = p
    · subst hqp
      rw [(f6 q (by omega)).2, (f5 q (by omega)).2, (f4 q (by omega)).2, (f3 q (by omega)).2, (f2 q (by omega)).2, (hs2 q (by omega)).2]
    · rw [(wit q hqp (fun o h1 h2 => by omega)).2, (hs2 q (by omega)).2]
  · rw [US_1]; exact p6
  · have h3 : o = 1 ∨ o = 2 ∨ o = 3 ∨ o = 4 ∨ o = 5 ∨ o = 6 := by omega
    rcases h3 with rfl | rfl | rfl | rfl | rfl | rfl
    · refine ⟨r1, by rw [e1.1], by rw [e1.1], fun f hf => ?_⟩
      rw [e1.2]
      rfl
    · refine ⟨r2, by rw [e2.1], by rw [e2.1], fun f hf => ?_⟩
      rw [e2.2]
      exact if_pos hf
    · refine ⟨r3, by rw [e3.1], by rw [e3.1], fun f hf => ?_⟩
      rw [e3.2]
      exact if_pos hf
    · refine ⟨r4, by rw [e4.1], by rw [e4.1], fun f hf => ?_⟩
      rw [e4.2]
      exact if_pos hf
    · refine ⟨r5, by rw [e5.1], by rw [e5.1], fun f hf => ?_⟩
      rw [e5.2]
      exact if_pos hf
    · refine ⟨r6, by rw [e6.1], by rw [e6.1], fun f hf => ?_⟩
      rw [e6.2]
      exact if_pos hf
  · rw [(wit n (by omega) (fun o h1 h2 => by omega)).1, (hs2 n (by omega)).1, jv_US_other (by omega), hw1.2.1]
  · rw [(wit n (by omega) (fun o h1 h2 => by omega)).1, (hs2 n (by omega)).1, jv_US_other (by omega), hw1.2.1]
