/-! ===== the law's rumour: what comes is taken, what is told is sent ===== -/
def tk1 (h κ : Int32) (x : WE) (v : Nat → Int32) : Nat → Int32 := if mt h κ x = true then (fun j => if j = x.1.toNatClampNeg then x.2.2.2 else v j) else v
def tkL (h κ : Int32) : List WE → (Nat → Int32) → Nat → Int32
  | [], v => v
  | x :: l, v => tkL h κ l (tk1 h κ x v)
def nmt (h κ : Int32) (x : WE) : Bool := !mt h κ x
theorem drop_cons {l : List WE} {i : Nat} {x : WE} (h : l[i]? = some x) : l.drop i = x :: l.drop (i + 1) := by
  obtain ⟨hi, hx⟩ := List.getElem?_eq_some_iff.mp h
  rw [List.drop_eq_getElem_cons hi, hx]
/-- references 0, 1 .. of a row of rows hold the list lp -/
def RF (E : Nat → Prop) (n : Nat) (sh0 : Nat → jv_S) (V0 : Nat → Nat → Int32) (r : Nat → Option Nat) (lp : List WE) : Prop := ∀ k x, lp[k]? = some x → ∃ e, r k = some e ∧ e < n ∧ E e ∧ rowAt sh0 V0 e x
theorem RF.nil {E : Nat → Prop} {n : Nat} {sh0 : Nat → jv_S} {V0 : Nat → Nat → Int32} {r : Nat → Option Nat} : RF E n sh0 V0 r [] := fun k x h => by simp at h
theorem RF.snoc {E : Nat → Prop} {n e : Nat} {x : WE} {sh0 : Nat → jv_S} {V0 : Nat → Nat → Int32} {r r' : Nat → Option Nat} {lp : List WE} (h : RF E n sh0 V0 r lp) (h1 : ∀ j, j ≠ lp.length → r' j = r j) (h2 : r' lp.length = some e) (hn : e < n) (hE : E e) (hr : rowAt sh0 V0 e x) : RF E n sh0 V0 r' (lp ++ [x]) := by
  intro k y hy
  by_cases hk : k < lp.length
  · rw [List.getElem?_append_left hk] at hy
    rw [h1 k (by omega)]
    exact h k y hy
  · rw [List.getElem?_append_right (by omega)] at hy
    have h0 : k - lp.length = 0 := by
      have := (List.getElem?_eq_some_iff.mp hy).1
      simp at this
      omega
    have hk2 : k = lp.length := by omega
    rw [h0] at hy
    cases hy
    subst hk2
    exact ⟨e, h2, hn, hE, hr⟩
theorem RF.mono {E E' : Nat → Prop} {n n' : Nat} {sh0 sh1 : Nat → jv_S} {V0 V1 : Nat → Nat → Int32} {r r' : Nat → Option Nat} {lp : List WE} (h : RF E n sh0 V0 r lp) (hr : ∀ k, k < lp.length → r' k = r k) (hn : n ≤ n') (hE : ∀ e, e < n → E e → E' e) (hs : ∀ e, e < n → E e → (sh0 e).1 = 10 → sh1 e = sh0 e ∧ V1 e = V0 e) : RF E' n' sh1 V1 r' lp := by
  intro k x hx
  obtain ⟨e, a, b, c, d⟩ := h k x hx
  refine ⟨e, by rw [hr k (List.getElem?_eq_some_iff.mp hx).1]; exact a, by omega, hE e b c, ?_⟩
  obtain ⟨e1, e2⟩ := hs e b c d.1
  unfold rowAt
  rw [e1, e2]
  exact d
theorem WL.rf {E : Nat → Prop} {n w : Nat} {sh : Nat → jv_S} {V : Nat → Nat → Int32} {l : List WE} (h : WL E n sh V w l) : RF E n sh V (sh w).2.2 l := h.2.2.2
theorem rowAt.to {sh0 sh : Nat → jv_S} {V0 V : Nat → Nat → Int32} {e : Nat} {x : WE} (h : rowAt sh0 V0 e x) (h1 : sh e = sh0 e) (h2 : V e = V0 e) : rowAt sh V e x := by
  unfold rowAt
  rw [h1, h2]
  exact h

set_option maxHeartbeats 4000000 in
set_option maxRecDepth 100000 in
theorem c_take_1 {g : jv_G} {X : jv_X} {n : Nat} {L : Nat → Nat → Int64} {k z : Nat} {E : Nat → Prop} {n0 N c lf w p : Nat} {l FL : List WE} {FV : Nat → Int32} {h κ : Int32} {sh0 : Nat → jv_S} {V0 : Nat → Nat → Int32} (hW : WL E n0 sh0 V0 w l) (hl : l.length ≤ 24) (hN : N ≤ 12) (hwl : w ≠ lf) (hcl : c ≠ lf) (hck0 : (sh0 c).1 = 10) (hcn0 : (sh0 c).2.1 = N) (hE0 : ∀ e, E e → e ≠ lf ∧ e ≠ c) (hKey : ∀ x ∈ l, mt h κ x = true → ∃ f, f < N ∧ x.1 = nI f) (kk : ∀ sh' V' v9, (∀ q, q ≠ lf → sh' q = sh0 q) → (sh' lf).1 = 15 → (sh' lf).2.1 = l.length → (∀ q, q ≠ c → V' q = V0 q) → V' c = FV → RF E n0 sh0 V0 (sh' lf).2.2 FL → jv_J g X I_X5_take 95 [some (jv_r g p), some (.int h), some (.int κ), some (jv_r g c), some (jv_r g lf), some (.int (nI FL.length)), some (jv_r g w), some (.int (nI l.length)), some (.int (nI l.length)), v9] [] n sh' V' L k z) : ∀ (m : Nat) (i : Nat) (lp : List WE) (sh : Nat → jv_S) (V : Nat → Nat → Int32) (v9 : Option Value), i ≤ l.length → l.length + 1 ≤ i + m → (∀ q, q ≠ lf → sh q = sh0 q) → (sh lf).1 = 15 → (sh lf).2.1 = l.length → lp.length ≤ i → (∀ q, q ≠ c → V q = V0 q) → RF E n0 sh0 V0 (sh lf).2.2 lp → lp ++ (l.drop i).filter (nmt h κ) = FL → tkL h κ (l.drop i) (V c) = FV → jv_J g X I_X5_take 36 [some (jv_r g p), some (.int h), some (.int κ), some (jv_r g c), some (jv_r g lf), some (.int (nI lp.length)), some (jv_r g w), some (.int (nI l.length)), some (.int (nI i)), v9] [] n sh V L k z := by
  intro m
  induction m with
  | zero => intro i lp sh V v9 hi hm hs hlk hln hlp hV hRF hFL hFV; omega
  | succ m ih =>
  intro i lp sh V v9 hi hm hs hlk hln hlp hV hRF hFL hFV
  refine j_iload_8 dX5_take_36 ?_
  refine j_iload_7 dX5_take_38 ?_
  refine j_ic_geN (by omega) (by omega) (tgt := 95) dX5_take_40 (by decide) (fun h40 => ?_) (fun h40 => ?_)
  · have ei : i = l.length := by omega
    rw [List.drop_eq_nil_of_le (by omega)] at hFL hFV
    simp only [List.filter_nil, List.append_nil] at hFL
    subst hFL
    subst ei
    exact kk sh V _ hs hlk hln hV hFV hRF
  · obtain ⟨x, e, hx, he, hen, hE, hr0⟩ := hW.at (i := i) (by omega)
    have hr : rowAt sh V e x := hr0.to (hs e (hE0 e hE).1) (hV e (hE0 e hE).2)
    have hwk : (sh w).1 = 15 := by rw [hs w hwl]; exact hW.1
    have hwn : (sh w).2.1 = l.length := by rw [hs w hwl]; exact hW.2.1
    have he' : (sh w).2.2 i = some e := by rw [hs w hwl]; exact he
    have hck : (sh c).1 = 10 := by rw [hs c hcl]; exact hck0
    have hcn : (sh c).2.1 = N := by rw [hs c hcl]; exact hcn0
    refine j_aload_6 dX5_take_43 ?_
    refine j_iload_8 dX5_take_45 ?_
    refine jr_aaldA dX5_take_47 hwk hwn (by omega) (by omega) he' ?_
    refine j_astore_9 rfl (by decide) dX5_take_48 ?_
    refine j_aload_9 dX5_take_50 ?_
    refine j_iconst (v := nI 1) dX5_take_52 nc_iconst_1 ?_
    refine j_iald dX5_take_53 hr.1 hr.2.1 (by omega) (by omega) ?_
    refine j_top (y := x.2.1) hr.2.2.2.1 ?_
    refine j_iload_n_1 dX5_take_54 ?_
    refine j_ic_ne (tgt := 79) dX5_take_55 (by decide) (fun h55 => ?_) (fun h55 => ?_)
    · refine j_aload_4 dX5_take_79 ?_
      refine j_iload_5 dX5_take_81 ?_
      refine j_aload_9 dX5_take_83 ?_
      refine jr_aastA dX5_take_85 hlk hln (by omega) (by omega) hr.1 (fun sh1 hst => ?_)
      refine j_inc1_5 rfl (by decide) dX5_take_86 ?_
      rw [show nI (lp.length + 1) = nI (lp ++ [x]).length by rw [List.length_append]; rfl]
      refine j_inc1_8 rfl (by decide) dX5_take_89 ?_
      refine j_goto (tgt := 36) dX5_take_92 (by decide) ?_
      refine ih (i + 1) (lp ++ [x]) _ _ _ (by omega) (by omega) (fun q hq => (hst.1 q hq).trans (hs q hq)) (hst.2.1.trans hlk) (hst.2.2.1.trans hln) (by rw [List.length_append]; simp; omega) hV (hRF.snoc (fun j hj => hst.2.2.2.1 j hj) hst.2.2.2.2 hen hE hr0) ?_ ?_
      · rw [← hFL, drop_cons hx, List.filter_cons_of_pos (by unfold nmt; rw [mt_n1 h55]; decide), List.append_assoc]
        rfl
      · rw [← hFV, drop_cons hx, tkL, tk1, if_neg (by rw [mt_n1 h55]; decide)]
    · refine j_aload_9 dX5_take_58 ?_
      refine j_iconst (v := nI 2) dX5_take_60 nc_iconst_2 ?_
      refine j_iald dX5_take_61 hr.1 hr.2.1 (by omega) (by omega) ?_
      refine j_top (y := x.2.2.1) hr.2.2.2.2.1 ?_
      refine j_iload_n_2 dX5_take_62 ?_
      refine j_ic_ne (tgt := 79) dX5_take_63 (by decide) (fun h63 => ?_) (fun h63 => ?_)
      · refine j_aload_4 dX5_take_79 ?_
        refine j_iload_5 dX5_take_81 ?_
        refine j_aload_9 dX5_take_83 ?_
        refine jr_aastA dX5_take_85 hlk hln (by omega) (by omega) hr.1 (fun sh1 hst => ?_)
        refine j_inc1_5 rfl (by decide) dX5_take_86 ?_
        rw [show nI (lp.length + 1) = nI (lp ++ [x]).length by rw [List.length_append]; rfl]
        refine j_inc1_8 rfl (by decide) dX5_take_89 ?_
        refine j_goto (tgt := 36) dX5_take_92 (by decide) ?_
        refine ih (i + 1) (lp ++ [x]) _ _ _ (by omega) (by omega) (fun q hq => (hst.1 q hq).trans (hs q hq)) (hst.2.1.trans hlk) (hst.2.2.1.trans hln) (by rw [List.length_append]; simp; omega) hV (hRF.snoc (fun j hj => hst.2.2.2.1 j hj) hst.2.2.2.2 hen hE hr0) ?_ ?_
        · rw [← hFL, drop_cons hx, List.filter_cons_of_pos (by unfold nmt; rw [mt_n2 h63]; decide), List.append_assoc]
          rfl
        · rw [← hFV, drop_cons hx, tkL, tk1, if_neg (by rw [mt_n2 h63]; decide)]
      · obtain ⟨f0, hf0N, hf0⟩ := hKey x (List.mem_of_getElem? hx) (mt_y h55 h63)
        refine j_aload_n_3 dX5_take_66 ?_
        refine j_aload_9 dX5_take_67 ?_
        refine j_iconst (v := nI 0) dX5_take_69 nc_iconst_0 ?_
        refine j_iald dX5_take_70 hr.1 hr.2.1 (by omega) (by omega) ?_
        refine j_top (y := nI f0) (hr.2.2.1.trans hf0) ?_
        refine j_aload_9 dX5_take_71 ?_
        refine j_iconst (v := nI 3) dX5_take_73 nc_iconst_3 ?_
        refine j_iald dX5_take_74 hr.1 hr.2.1 (by omega) (by omega) ?_
        refine j_top (y := x.2.2.2) hr.2.2.2.2.2 ?_
        refine j_iast dX5_take_75 hck hcn (by omega) (by omega) ?_
        refine j_goto (tgt := 89) dX5_take_76 (by decide) ?_
        refine j_inc1_8 rfl (by decide) dX5_take_89 ?_
        refine j_goto (tgt := 36) dX5_take_92 (by decide) ?_
        refine ih (i + 1) lp _ _ _ (by omega) (by omega) hs hlk hln (by omega) (fun q hq => by rw [jv_U_other hq]; exact hV q hq) hRF ?_ ?_
        · rw [← hFL, drop_cons hx, List.filter_cons_of_neg (by unfold nmt; rw [mt_y h55 h63]; decide)]
        · rw [← hFV, drop_cons hx, tkL, tk1, if_pos (mt_y h55 h63), jv_U_self, hf0, nI_clamp (by omega)]

set_option maxHeartbeats 4000000 in
set_option maxRecDepth 100000 in
theorem c_take_2 {g : jv_G} {X : jv_X} {T : jv_T} {n : Nat} {L : Nat → Nat → Int64} {k z : Nat} {V : Nat → Nat → Int32} {h κ : Int32} {p lf w2 cnt M c : Nat} {sh1 : Nat → jv_S} (hp : (sh1 p).1 = 6) (hp8 : (sh1 p).2.2 8 = some w2) (hpw2 : p ≠ w2) (hlk0 : (sh1 lf).1 = 15) (hln0 : (sh1 lf).2.1 = M) (hM : cnt ≤ M) (hM2 : M ≤ 25) (hlw2 : lf ≠ w2) (hR : ∀ j, j < cnt → ∃ e, (sh1 lf).2.2 j = some e ∧ (sh1 e).1 = 10 ∧ e ≠ w2) (hMM : jv_M g X T) (hT : ∀ sh', (∀ q, q ≠ w2 → sh' q = sh1 q) → (sh' w2).1 = 15 → (sh' w2).2.1 = cnt → (∀ j, j < cnt → (sh' w2).2.2 j = (sh1 lf).2.2 j) → T (.inl (some (jv_r g c))) n sh' V L) : ∀ (m : Nat) (i : Nat) (sh : Nat → jv_S) (v7 v8 : Option Value) (v9 : Option Value), i ≤ cnt → cnt + 1 ≤ i + m → (∀ q, q ≠ w2 → sh q = sh1 q) → (sh w2).1 = 15 → (sh w2).2.1 = cnt → (∀ j, j < i → (sh w2).2.2 j = (sh1 lf).2.2 j) → jv_J g X I_X5_take 107 [some (jv_r g p), some (.int h), some (.int κ), some (jv_r g c), some (jv_r g lf), some (.int (nI cnt)), some (.int (nI i)), v7, v8, v9] [] n sh V L k z := by
  intro m
  induction m with
  | zero => intro i sh v7 v8 v9 hi hm hs hw1 hw2 hrf; omega
  | succ m ih =>
  intro i sh v7 v8 v9 hi hm hs hw1 hw2 hrf
  refine j_iload_6 dX5_take_107 ?_
  refine j_iload_5 dX5_take_109 ?_
  refine j_ic_geN (by omega) (by omega) (tgt := 132) dX5_take_111 (by decide) (fun h111 => ?_) (fun h111 => ?_)
  · obtain rfl : i = cnt := by omega
    refine j_aload_n_3 dX5_take_132 ?_
    exact j_aret hMM dX5_take_133 rfl (Or.inr ⟨_, rfl⟩) (hT sh hs hw1 hw2 hrf)
  · obtain ⟨e, he0, hek0, hew⟩ := hR i (by omega)
    have hpk : (sh p).1 = 6 := by rw [hs p hpw2]; exact hp
    have hpw : (sh p).2.2 8 = some w2 := by rw [hs p hpw2]; exact hp8
    have hlk : (sh lf).1 = 15 := by rw [hs lf hlw2]; exact hlk0
    have hln : (sh lf).2.1 = M := by rw [hs lf hlw2]; exact hln0
    have he : (sh lf).2.2 i = some e := by rw [hs lf hlw2]; exact he0
    have hek : (sh e).1 = 10 := by rw [hs e hew]; exact hek0
    refine j_aload_n_0 dX5_take_114 ?_
    refine G_X5_9 rfl dX5_take_115 hpk hpw ?_
    refine j_iload_6 dX5_take_118 ?_
    refine j_aload_4 dX5_take_120 ?_
    refine j_iload_6 dX5_take_122 ?_
    refine jr_aaldA dX5_take_124 hlk hln (by omega) (by omega) he ?_
    refine jr_aastA dX5_take_125 hw1 hw2 (by omega) (by omega) hek (fun sh2 hst => ?_)
    refine j_inc1_6 rfl (by decide) dX5_take_126 ?_
    refine j_goto (tgt := 107) dX5_take_129 (by decide) ?_
    refine ih (i + 1) sh2 _ _ _ (by omega) (by omega) (fun q hq => (hst.1 q hq).trans (hs q hq)) (hst.2.1.trans hw1) (hst.2.2.1.trans hw2) (fun j hj => ?_)
    by_cases e2 : j = i
    · rw [e2, hst.2.2.2.2, he0]
    · rw [hst.2.2.2.1 j e2]
      exact hrf j (by omega)

def TP (n : Nat) (sh : Nat → jv_S) (V : Nat → Nat → Int32) (E : Nat → Prop) (p N : Nat) (l : List WE) (h κ : Int32) (n1 : Nat) (s1 : Nat → jv_S) (V1 : Nat → Nat → Int32) : Prop := n1 = n + 3 ∧ (∀ q, q < n → q ≠ p → s1 q = sh q) ∧ (∀ q, q < n → V1 q = V q) ∧ (s1 p).1 = 6 ∧ (∀ j, j ≠ 8 → (s1 p).2.2 j = (sh p).2.2 j) ∧ (s1 p).2.2 8 = some (n + 2) ∧ WL E n1 s1 V1 (n + 2) (l.filter (nmt h κ)) ∧ (s1 n).1 = 10 ∧ (s1 n).2.1 = N ∧ V1 n = tkL h κ l (fun j => if j < N then -1 else 0)
set_option maxHeartbeats 4000000 in
set_option maxRecDepth 100000 in
theorem c_take {g : jv_G} {X : jv_X} {T : jv_T} {n : Nat} {sh : Nat → jv_S} {V : Nat → Nat → Int32} {L : Nat → Nat → Int64} {k z : Nat} {E : Nat → Prop} {p w : Nat} {l : List WE} (hp : (sh p).1 = 6) (hpn : p < n) (hw : (sh p).2.2 8 = some w) (hW : WL E n sh V w l) (hl : l.length ≤ 24) {a N : Nat} (ha : (sh p).2.2 2 = some a) (hak : (sh a).1 = 10) (han : (sh a).2.1 = N) (hN : N ≤ 12) {h κ : Int32} (hKey : ∀ x ∈ l, mt h κ x = true → ∃ f, f < N ∧ x.1 = nI f) (hk : 3 ≤ k) (hz : 60 ≤ z) (hM : jv_M g X T) (hT : ∀ n1 s1 V1, TP n sh V E p N l h κ n1 s1 V1 → T (.inl (some (jv_r g n))) n1 s1 V1 L) : jv_J g X I_X5_take 0 [some (jv_r g p), some (.int h), some (.int κ), none, none, none, none, none, none, none] [] n sh V L k z := by
  refine j_aload_n_0 dX5_take_0 ?_
  refine G_X5_15 rfl dX5_take_1 hp ha ?_
  refine j_alen dX5_take_4 hak han ?_
  refine Q_X5_18  rfl (by decide) dX5_take_5 (Nat.le_of_ble_eq_true rfl) (k' := 1) (k2 := k - 1) (by omega) (z' := 12) (z2 := z - 12) (by omega) (fun _ _ hM' hT' => c_none (N := N) hN (by omega) (by omega) hM' hT') (fun n1 s1 V1 hP1 => ?_)
  obtain ⟨rfl, hwn⟩ := hP1
  have e1 : ∀ q, q < n → s1 q = sh q := fun q hq => (hwn.1 q (by omega)).1
  have e1V : ∀ q, q < n → V1 q = V q := fun q hq => (hwn.1 q (by omega)).2
  have hp1 : (s1 p).1 = 6 := by rw [e1 p hpn]; exact hp
  have hw1 : (s1 p).2.2 8 = some w := by rw [e1 p hpn]; exact hw
  have hwk1 : (s1 w).1 = 15 := by rw [e1 w hW.2.2.1]; exact hW.1
  have hwn1 : (s1 w).2.1 = l.length := by rw [e1 w hW.2.2.1]; exact hW.2.1
  refine j_astore_n_3 rfl (by decide) dX5_take_8 ?_
  refine j_aload_n_0 dX5_take_9 ?_
  refine G_X5_9 rfl dX5_take_10 hp1 hw1 ?_
  refine jr_alenA dX5_take_13 hwk1 hwn1 ?_
  refine jr_anewA (jv_gwm 570 (by decide +kernel) rfl) dX5_take_14 (by omega) (k2 := k - 2) (z2 := z - 12 - l.length) (by omega) (by omega) (fun sh2 hw2 => ?_)
  have hs2 : ∀ q, q ≠ n + 1 → sh2 q = s1 q := fun q hq => (hw2.1 q hq).1
  have hp2 : (sh2 p).1 = 6 := by rw [hs2 p (by omega)]; exact hp1
  have hp28 : (sh2 p).2.2 8 = some w := by rw [hs2 p (by omega)]; exact hw1
  have hwk2 : (sh2 w).1 = 15 := by rw [hs2 w (by have := hW.2.2.1; omega)]; exact hwk1
  have hwn2 : (sh2 w).2.1 = l.length := by rw [hs2 w (by have := hW.2.2.1; omega)]; exact hwn1
  refine j_astore_4 rfl (by decide) dX5_take_17 ?_
  refine j_iconst (v := nI 0) dX5_take_19 nc_iconst_0 ?_
  refine j_istore_5 rfl (by decide) dX5_take_20 ?_
  refine j_aload_n_0 dX5_take_22 ?_
  refine G_X5_9 rfl dX5_take_23 hp2 hp28 ?_
  refine j_astore_6 rfl (by decide) dX5_take_26 ?_
  refine j_aload_6 dX5_take_28 ?_
  refine jr_alenA dX5_take_30 hwk2 hwn2 ?_
  refine j_istore_7 rfl (by decide) dX5_take_31 ?_
  refine j_iconst (v := nI 0) dX5_take_33 nc_iconst_0 ?_
  refine j_istore_8 rfl (by decide) dX5_take_34 ?_
  have hWn : WL (fun e => E e ∧ e < n) (n + 2) sh2 V1 w l := ⟨hwk2, hwn2, by have := hW.2.2.1; omega, hW.rf.mono (fun j _ => by rw [hs2 w (by have := hW.2.2.1; omega), e1 w hW.2.2.1]) (by omega) (fun e h1 h2 => ⟨h2, h1⟩) (fun e h1 h2 _ => ⟨by rw [hs2 e (by omega), e1 e h1], e1V e h1⟩)⟩
  have hck2 : (sh2 n).1 = 10 := by rw [hs2 n (by omega), hwn.2.1]
  have hcn2 : (sh2 n).2.1 = N := by rw [hs2 n (by omega), hwn.2.1]
  refine c_take_1 (p := p) (c := n) (lf := n + 1) (N := N) (FL := l.filter (nmt h κ)) (FV := tkL h κ l (fun j => if j < N then -1 else 0)) hWn hl hN (by have := hW.2.2.1; omega) (by omega) hck2 hcn2 (fun e he => ⟨by omega, by omega⟩) hKey ?_ (l.length + 1) 0 [] sh2 V1 _ (by omega) (by omega) (fun q _ => rfl) (by rw [hw2.2.1]) (by rw [hw2.2.1]) (by simp) (fun q _ => rfl) RF.nil rfl (by rw [hwn.2.2]; rfl)
  intro sh3 V3 v9 hs3 hlk3 hln3 hV3 hVc hRF3
  have hp3 : (sh3 p).1 = 6 := by rw [hs3 p (by omega)]; exact hp2
  have hcl3 : (l.filter (nmt h κ)).length ≤ l.length := List.length_filter_le _ _
  refine j_aload_n_0 dX5_take_95 ?_
  refine j_iload_5 dX5_take_96 ?_
  refine jr_anewA (jv_gwm 570 (by decide +kernel) rfl) dX5_take_98 (by omega) (k2 := k - 3) (z2 := z - 60) (by omega) (by omega) (fun sh4 hw4 => ?_)
  have hs4 : ∀ q, q ≠ n + 2 → sh4 q = sh3 q := fun q hq => (hw4.1 q hq).1
  have hp4 : (sh4 p).1 = 6 := by rw [hs4 p (by omega)]; exact hp3
  refine P_X5_9 rfl dX5_take_101 hp4 ?_
  refine j_iconst (v := nI 0) dX5_take_104 nc_iconst_0 ?_
  refine j_istore_6 rfl (by decide) dX5_take_105 ?_
  refine c_take_2 (p := p) (lf := n + 1) (w2 := n + 2) (cnt := (l.filter (nmt h κ)).length) (M := l.length) (c := n) (sh1 := jv_US sh4 p 8 (n + 2)) (by rw [US_1]; exact hp4) US_eq (by omega) (by rw [US_1, hs4 _ (by omega)]; exact hlk3) (by rw [US_2, hs4 _ (by omega)]; exact hln3) hcl3 (by omega) (by omega) (fun j hj => ?_) hM ?_ ((l.filter (nmt h κ)).length + 1) 0 (jv_US sh4 p 8 (n + 2)) _ _ _ (by omega) (by omega) (fun q _ => rfl) (by rw [US_1, hw4.2.1]) (by rw [US_2, hw4.2.1]) (fun j hj => absurd hj (by omega))
  · obtain ⟨e, a1, a2, a3, a4⟩ := hRF3 j _ (List.getElem?_eq_getElem hj)
    exact ⟨e, by rw [jv_US_other (by omega), hs4 _ (by omega)]; exact a1, by rw [US_1, hs4 e (by omega), hs3 e (by omega)]; exact a4.1, by omega⟩
  · intro sh5 b1 b2 b3 b4
    refine hT _ _ _ ⟨rfl, fun q hq hqp => ?_, fun q hq => ?_, ?_, fun j hj => ?_, ?_, ⟨b2, b3, by omega, ?_⟩, ?_, ?_, ?_⟩
    · rw [b1 q (by omega), jv_US_other hqp, hs4 q (by omega), hs3 q (by omega), hs2 q (by omega), e1 q hq]
    · rw [hV3 q (by omega), e1V q hq]
    · rw [b1 p (by omega), US_1]; exact hp4
    · rw [b1 p (by omega), US_nej hj, hs4 p (by omega), hs3 p (by omega), hs2 p (by omega), e1 p hpn]
    · rw [b1 p (by omega)]; exact US_eq
    · refine hRF3.mono (fun j hj => ?_) (by omega) (fun e _ he => he.1) (fun e he2 he h10 => ⟨?_, hV3 e (by omega)⟩)
      · rw [b4 j hj, jv_US_other (by omega), hs4 _ (by omega)]
      · have hep : e ≠ p := by
          intro c
          rw [c, hp2] at h10
          exact absurd h10 (by decide)
        rw [b1 e (by omega), jv_US_other hep, hs4 e (by omega), hs3 e (by omega)]
    · rw [b1 n (by omega), US_1, hs4 n (by omega), hs3 n (by omega)]; exact hck2
    · rw [b1 n (by omega), US_2, hs4 n (by omega), hs3 n (by omega)]; exact hcn2
    · exact hVc
