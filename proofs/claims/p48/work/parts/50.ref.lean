def Mt (V : (Nat → Nat → Int32)) (N K R : Nat) : Prop := V 123 1 = nI N ∧ V 123 2 = nI K ∧ V 123 3 = nI R ∧ 2 ≤ N ∧ N ≤ 12 ∧ K ≤ 4 ∧ R ≤ 8 ∧ ∀ k, k < K → ¬ V 130 k = 0
theorem Mt.to {V W : (Nat → Nat → Int32)} {N K R : Nat} (h : Mt V N K R) (h1 : W 123 1 = V 123 1) (h2 : W 123 2 = V 123 2) (h3 : W 123 3 = V 123 3) (h4 : W 130 = V 130) : Mt W N K R := by
  obtain ⟨a, b, c, d, e, f, g, i⟩ := h
  exact ⟨by rw [h1]; exact a, by rw [h2]; exact b, by rw [h3]; exact c, d, e, f, g, by rw [h4]; exact i⟩
theorem Mt.o {V W : (Nat → Nat → Int32)} {N K R : Nat} (h : Mt V N K R) (h1 : W 123 = V 123) (h4 : W 130 = V 130) : Mt W N K R := h.to (by rw [h1]) (by rw [h1]) (by rw [h1]) h4
def inB (v lo hi : Int32) : Bool := decide (¬ v < lo ∧ ¬ hi < v)
theorem inB_ok {f N c : Nat} (h : f + c ≤ N) (hN : N ≤ 12) : inB (nI f) (nI 0) (nI N - nI c) = true := by
  unfold inB
  apply decide_eq_true
  refine ⟨nI_nlt (by omega) (by omega), ?_⟩
  rw [pk_sub (by omega : c ≤ N)]
  exact nI_nlt (by omega) (by omega)
theorem inB_bad {x : Int32} {N c : Nat} (hc : 1 ≤ c) (hcN : c ≤ N + 1) (hN : N ≤ 12) (h : x < 0 ∨ nI (N + 1 - c) ≤ x) : inB x (nI 0) (nI N - nI c) = false := by
  unfold inB
  apply decide_eq_false
  rintro ⟨h1, h2⟩
  rcases h with h | h
  · rw [nI_0] at h1; exact h1 h
  · apply h2
    rw [Int32.lt_iff_toInt_lt, pk_sub_toInt (by omega) (by omega)]
    rw [Int32.le_iff_toInt_le, nI_toInt (by omega)] at h
    omega
theorem inN_ok {m a b : Nat} (h1 : a ≤ m) (h2 : m ≤ b) (hb : b < 2 ^ 31) : inB (nI m) (nI a) (nI b) = true := by
  unfold inB
  apply decide_eq_true
  exact ⟨nI_nlt h1 (by omega), nI_nlt h2 (by omega)⟩
theorem inX_ok {x a b : Int32} (h1 : ¬ x < a) (h2 : x ≤ b) : inB x a b = true := decide_eq_true ⟨h1, Int32.not_lt.mpr h2⟩
theorem inX_bad {x a b : Int32} (h : x < a ∨ b < x) : inB x a b = false := decide_eq_false (fun c => h.elim c.1 c.2)
def svB (V : (Nat → Nat → Int32)) (k : Nat) (x : Int32) : Bool := inB x (V 128 k) (V 129 k) && decide ((x - V 128 k) - (x - V 128 k) / V 130 k * V 130 k = 0)

def hoL (V : (Nat → Nat → Int32)) (a b ap : Nat) : Nat → Nat → Int32 → Int32
  | 0, _, acc => acc
  | m + 1, i, acc => hoL V a b ap m (i + 1) (if ¬ V 132 i = 0 ∧ svB V i (nI a) = true ∧ svB V i (nI b) = true then (if acc = -1 then V 131 i + nI (ap / 2) else if V 131 i + nI (ap / 2) < acc then V 131 i + nI (ap / 2) else acc) else acc)
def hoX (V : (Nat → Nat → Int32)) (K a b mn mxx : Nat) : Int32 := if a = b then -1 else hoL V a b (mxx - mn) K 0 (if mxx - mn = 1 ∧ ¬ V 127 mn = 0 then V 126 mn else -1)
def hoM (V : (Nat → Nat → Int32)) (K a b : Nat) : Int32 := hoX V K a b (min a b) (max a b)
theorem hoL_congr {V W : (Nat → Nat → Int32)} {a b ap : Nat} (h : ∀ q, 126 ≤ q → q ≤ 132 → W q = V q) : ∀ m i acc, hoL W a b ap m i acc = hoL V a b ap m i acc := by
  intro m
  induction m with
  | zero => intro i acc; rfl
  | succ m ih =>
    intro i acc
    unfold hoL
    have e : ∀ x, svB W i x = svB V i x := by
      intro x
      unfold svB
      rw [h 128 (by omega) (by omega), h 129 (by omega) (by omega), h 130 (by omega) (by omega)]
    rw [ih, e, e, h 132 (by omega) (by omega), h 131 (by omega) (by omega)]
theorem hoM_congr {V W : (Nat → Nat → Int32)} {K a b : Nat} (h : ∀ q, 126 ≤ q → q ≤ 132 → W q = V q) : hoM W K a b = hoM V K a b := by
  unfold hoM hoX
  rw [hoL_congr h, h 127 (by omega) (by omega), h 126 (by omega) (by omega)]
theorem nI_min (a b : Nat) (ha : a < 12) (hb : b < 12) : (if nI b < nI a then nI b else nI a) = nI (min a b) := by
  by_cases h : b < a
  · rw [if_pos ((nI_ltI (by omega) (by omega)).mpr h), Nat.min_eq_right (by omega)]
  · rw [if_neg (nI_nlt (by omega) (by omega)), Nat.min_eq_left (by omega)]
theorem nI_max (a b : Nat) (ha : a < 12) (hb : b < 12) : (if nI a < nI b then nI b else nI a) = nI (max a b) := by
  by_cases h : a < b
  · rw [if_pos ((nI_ltI (by omega) (by omega)).mpr h), Nat.max_eq_right (by omega)]
  · rw [if_neg (nI_nlt (by omega) (by omega)), Nat.max_eq_left (by omega)]

def beB (V : (Nat → Nat → Int32)) (x y : Int32) (f : Nat) : Bool := decide (V 137 f = -1 ∨ btI V 137 138 x y f = true)

def rlb (V : (Nat → Nat → Int32)) (K a f : Nat) : (Nat → Nat → Int32) := if ¬ hoM V K a f = -1 ∧ V 139 f = 0 ∧ beB V (V 137 a + V 125 a + hoM V K a f) (V 138 a + nI 1) f = true then jv_U (jv_U V 137 f (V 137 a + V 125 a + hoM V K a f)) 138 f (V 138 a + nI 1) else V
def rlL (K a : Nat) : Nat → Nat → (Nat → Nat → Int32) → (Nat → Nat → Int32)
  | 0, _, V => V
  | m + 1, i, V => rlL K a m (i + 1) (rlb V K a i)
def rndM (N K : Nat) : Nat → (Nat → Nat → Int32) → (Nat → Nat → Int32)
  | 0, V => V
  | m + 1, V => match nrs V 137 138 139 N 0 none with
    | none => V
    | some a => rndM N K m (rlL K a N 0 (jv_U V 139 a (nI 1)))
def iniM (V : (Nat → Nat → Int32)) (i : Nat) : (Nat → Nat → Int32) := fun q c => if c < i then (if q = 137 then -1 else if q = 139 then nI 0 else V q c) else V q c
def wayM (V : (Nat → Nat → Int32)) (N K f : Nat) : (Nat → Nat → Int32) := rndM N K N (jv_U (jv_U (iniM V N) 137 f (nI 0)) 138 f (nI 0))
theorem rlb_out {V : (Nat → Nat → Int32)} {K a f q : Nat} (h : q < 137 ∨ 138 < q) : rlb V K a f q = V q := by
  unfold rlb
  split
  · rw [jv_U_other (by omega), jv_U_other (by omega)]
  · rfl
theorem rlL_out {K a q : Nat} (h : q < 137 ∨ 138 < q) : ∀ m i V, rlL K a m i V q = V q := by
  intro m
  induction m with
  | zero => intro i V; rfl
  | succ m ih =>
    intro i V
    show rlL K a m (i + 1) _ q = _
    rw [ih, rlb_out h]
theorem rndM_out {N K q : Nat} (h : q < 137 ∨ 139 < q) : ∀ m V, rndM N K m V q = V q := by
  intro m
  induction m with
  | zero => intro V; rfl
  | succ m ih =>
    intro V
    unfold rndM
    cases nrs V 137 138 139 N 0 none with
    | none => rfl
    | some a =>
      show rndM N K m _ q = _
      rw [ih, rlL_out (by omega), jv_U_other (by omega)]
theorem iniM_out {V : (Nat → Nat → Int32)} {i q : Nat} (h : q < 137 ∨ 139 < q) : iniM V i q = V q := by
  funext c
  unfold iniM
  rw [if_neg (by omega : ¬ q = 137), if_neg (by omega : ¬ q = 139), ite_self]
theorem wayM_out {V : (Nat → Nat → Int32)} {N K f q : Nat} (h : q < 137 ∨ 139 < q) : wayM V N K f q = V q := by
  unfold wayM
  rw [rndM_out h, jv_U_other (by omega), jv_U_other (by omega), iniM_out h]
theorem wayM_Mt {V : (Nat → Nat → Int32)} {N K R f K' : Nat} (h : Mt V N K R) : Mt (wayM V N K' f) N K R := h.o (wayM_out (by omega)) (wayM_out (by omega))
theorem iniM_0 {V : (Nat → Nat → Int32)} : iniM V 0 = V := by
  funext q c
  unfold iniM
  rw [if_neg (by omega)]
theorem iniM_s {V : (Nat → Nat → Int32)} {i : Nat} : jv_U (jv_U (iniM V i) 137 i (-1)) 139 i (nI 0) = iniM V (i + 1) := by
  funext q c
  unfold jv_U iniM
  by_cases hc : c = i
  · subst hc
    rw [if_neg (Nat.lt_irrefl c), if_pos (Nat.lt_succ_self c)]
    simp only [if_true]
    by_cases h5 : q = 139
    · subst h5; rfl
    · by_cases h4 : q = 137
      · subst h4; rfl
      · rw [if_neg h5, if_neg h4, if_neg h4, if_neg h5]
  · simp only [if_neg hc, ite_self]
    by_cases h : c < i
    · have h' : c < i + 1 := by omega
      simp only [if_pos h, if_pos h']
    · have h' : ¬ c < i + 1 := by omega
      simp only [if_neg h, if_neg h']

theorem nrs_past {V : (Nat → Nat → Int32)} {h p s f N : Nat} (hV : ∀ j, j < N → j ≠ f → V h j = -1) : ∀ m i b, i + m ≤ N → f < i → nrs V h p s m i b = b := by
  intro m
  induction m with
  | zero => intro i b _ _; rfl
  | succ m ih =>
    intro i b hi hf
    unfold nrs
    rw [ih _ _ (by omega) (by omega), if_neg (fun c => c.1.2 (hV i (by omega) (by omega)))]
theorem nrs_only {V : (Nat → Nat → Int32)} {h p s f N : Nat} (hV : ∀ j, j < N → j ≠ f → V h j = -1) (h1 : ¬ V h f = -1) (h2 : V s f = 0) : ∀ m i, i + m = N → i ≤ f → f < N → nrs V h p s m i none = some f := by
  intro m
  induction m with
  | zero => intro i hi h3 h4; omega
  | succ m ih =>
    intro i hi h3 h4
    unfold nrs
    by_cases e : i = f
    · subst e
      rw [if_pos ⟨⟨h2, h1⟩, rfl⟩, nrs_past hV _ _ _ (by omega) (by omega)]
    · rw [if_neg (fun c => c.1.2 (hV i (by omega) e)), ih _ (by omega) (by omega) h4]
theorem rlb_keep {V : (Nat → Nat → Int32)} {K a i f : Nat} (h1 : ¬ V 139 f = 0) : rlb V K a i 137 f = V 137 f ∧ rlb V K a i 139 = V 139 := by
  refine ⟨?_, rlb_out (by omega)⟩
  unfold rlb
  split
  · rename_i hc
    have e : f ≠ i := fun e => h1 (by rw [e]; exact hc.2.1)
    rw [jv_Une (by omega), jv_Unj e]
  · rfl
theorem rlL_keep {K a f : Nat} : ∀ m i V, ¬ V 139 f = 0 → rlL K a m i V 137 f = V 137 f ∧ rlL K a m i V 139 = V 139 := by
  intro m
  induction m with
  | zero => intro i V h; exact ⟨rfl, rfl⟩
  | succ m ih =>
    intro i V h
    obtain ⟨a1, a2⟩ := rlb_keep (K := K) (a := a) (i := i) h
    obtain ⟨b1, b2⟩ := ih (i + 1) (rlb V K a i) (by rw [a2]; exact h)
    show rlL K a m (i + 1) _ 137 f = _ ∧ rlL K a m (i + 1) _ 139 = _
    exact ⟨by rw [b1, a1], by rw [b2, a2]⟩
theorem nI1_ne : ¬ nI 1 = 0 := by decide +kernel
theorem rndM_keep {N K f : Nat} : ∀ m V, ¬ V 139 f = 0 → rndM N K m V 137 f = V 137 f := by
  intro m
  induction m with
  | zero => intro V h; rfl
  | succ m ih =>
    intro V h
    unfold rndM
    cases nrs V 137 138 139 N 0 none with
    | none => rfl
    | some a =>
      have h' : ¬ jv_U V 139 a (nI 1) 139 f = 0 := by
        by_cases e : f = a
        · subst e; rw [jv_Ueq]; exact nI1_ne
        · rw [jv_Unj e]; exact h
      obtain ⟨b1, b2⟩ := rlL_keep (K := K) (a := a) N 0 (jv_U V 139 a (nI 1)) h'
      show rndM N K m _ 137 f = _
      rw [ih _ (by rw [b2]; exact h'), b1, jv_Une (by omega)]
theorem wayM_self {V : (Nat → Nat → Int32)} {N K f : Nat} (hf : f < N) : wayM V N K f 137 f = nI 0 := by
  unfold wayM
  obtain ⟨m, rfl⟩ : ∃ m, N = m + 1 := ⟨N - 1, by omega⟩
  show rndM (m + 1) K (m + 1) _ 137 f = _
  unfold rndM
  have e : nrs (jv_U (jv_U (iniM V (m + 1)) 137 f (nI 0)) 138 f (nI 0)) 137 138 139 (m + 1) 0 none = some f := by
    refine nrs_only (N := m + 1) (fun j hj hne => ?_) ?_ ?_ (m + 1) 0 (by omega) (by omega) hf
    · rw [jv_Une (by omega), jv_Unj hne]
      unfold iniM
      rw [if_pos hj, if_pos rfl]
    · rw [jv_Une (by omega), jv_Ueq, nI_0]; decide
    · rw [jv_Une (by omega), jv_Une (by omega)]
      unfold iniM
      rw [if_pos hf, if_neg (by omega), if_pos rfl]
      exact nI_0
  rw [e]
  have h' : ¬ jv_U (jv_U (jv_U (iniM V (m + 1)) 137 f (nI 0)) 138 f (nI 0)) 139 f (nI 1) 139 f = 0 := by rw [jv_Ueq]; exact nI1_ne
  obtain ⟨b1, b2⟩ := rlL_keep (K := K) (a := f) (m + 1) 0 _ h'
  show rndM (m + 1) K m _ 137 f = _
  rw [rndM_keep _ _ (by rw [b2]; exact h'), b1, jv_Une (by omega), jv_Une (by omega), jv_Ueq]
def fmL (V : (Nat → Nat → Int32)) : Nat → Nat → Nat → Nat
  | 0, _, b => b
  | m + 1, i, b => fmL V m (i + 1) (if V 137 b < V 137 i ∨ (V 137 i = V 137 b ∧ i < b ∧ ¬ V 137 i ≤ 0) then i else b)
theorem fmL_lt {V : (Nat → Nat → Int32)} {N : Nat} : ∀ m i b, i + m ≤ N → b < N → fmL V m i b < N := by
  intro m
  induction m with
  | zero => intro i b _ h; exact h
  | succ m ih =>
    intro i b hi h
    unfold fmL
    refine ih _ _ (by omega) ?_
    split <;> omega
def aaL (V : (Nat → Nat → Int32)) : Nat → Nat → Bool
  | 0, _ => true
  | m + 1, i => if V 137 i = -1 then false else aaL V m (i + 1)
def mdL (N K : Nat) : Nat → Nat → (Nat → Nat → Int32) → Option Nat → Int32 → (Nat → Nat → Int32) × Option Nat
  | 0, _, V, b, _ => (V, b)
  | m + 1, i, V, b, l => if aaL (wayM V N K i) N 0 = true ∧ (b = none ∨ wayM V N K i 137 (fmL (wayM V N K i) N 0 i) < l) then mdL N K m (i + 1) (wayM V N K i) (some i) (wayM V N K i 137 (fmL (wayM V N K i) N 0 i)) else mdL N K m (i + 1) (wayM V N K i) b l
def fsL (V : (Nat → Nat → Int32)) : Nat → Nat → Nat
  | 0, i => i
  | m + 1, i => if V 137 i = -1 then fsL V m (i + 1) else i
def pnL (N K : Nat) : Nat → Nat → (Nat → Nat → Int32) → Nat → (Nat → Nat → Int32) × Nat
  | 0, _, V, a => (V, a)
  | m + 1, i, V, a => pnL N K m (i + 1) (wayM V N K i) (if fsL (wayM V N K i) N 0 = i then a + 1 else a + 0)
def arL (V : (Nat → Nat → Int32)) (K f : Nat) : Nat → Nat → Nat → Nat
  | 0, _, a => a
  | m + 1, i, a => arL V K f m (i + 1) (if hoM V K f i = -1 then a + 0 else a + 1)
theorem oz_max (b : Option Nat) (h : ∀ j, b = some j → j < 12) : (if nI 0 < ov b then ov b else nI 0) = oz b := by
  cases b with
  | none => exact if_neg (by show ¬ nI 0 < -1; decide +kernel)
  | some j =>
    show (if nI 0 < nI j then nI j else nI 0) = nI j
    have := h j rfl
    by_cases e : j = 0
    · subst e; exact if_neg (nI_nlt (by omega) (by omega))
    · exact if_pos ((nI_ltI (by omega) (by omega)).mpr (by omega))
theorem mdL_lt {N K : Nat} : ∀ m i V b l, i + m ≤ N → (∀ j, b = some j → j < N) → ∀ j, (mdL N K m i V b l).2 = some j → j < N := by
  intro m
  induction m with
  | zero => intro i V b l _ hb; exact hb
  | succ m ih =>
    intro i V b l hi hb
    unfold mdL
    split
    · exact ih _ _ _ _ (by omega) (fun j hj => by cases hj; omega)
    · exact ih _ _ _ _ (by omega) hb
theorem mdL_out {N K q : Nat} (h : q < 137 ∨ 139 < q) : ∀ m i V b l, (mdL N K m i V b l).1 q = V q := by
  intro m
  induction m with
  | zero => intro i V b l; rfl
  | succ m ih =>
    intro i V b l
    unfold mdL
    split
    · rw [ih, wayM_out h]
    · rw [ih, wayM_out h]
theorem pnL_out {N K q : Nat} (h : q < 137 ∨ 139 < q) : ∀ m i V a, (pnL N K m i V a).1 q = V q := by
  intro m
  induction m with
  | zero => intro i V a; rfl
  | succ m ih =>
    intro i V a
    unfold pnL
    rw [ih, wayM_out h]

def wwM (V : (Nat → Nat → Int32)) (N K l f : Nat) (b : Int32) : (Nat → Nat → Int32) := wayM (jv_U V 132 l b) N K f
def wwV (V : (Nat → Nat → Int32)) (N K l f : Nat) (b : Int32) : (Nat → Nat → Int32) := jv_U (wwM V N K l f b) 132 l (V 132 l)

def heM (V : (Nat → Nat → Int32)) (a : Nat) (p : Int32) : (Nat → Nat → Int32) := if V 135 (0 + a) = 0 then jv_U (jv_U (jv_U (jv_U V 135 (0 + a) (nI 1)) 135 (96 + a) (V 135 864)) 135 (192 + a) p) 135 (384 + a) (V 135 864 + V 125 (a % 12)) else V
def deM (V : (Nat → Nat → Int32)) (a : Nat) : (Nat → Nat → Int32) := if V 135 (0 + a) = nI 2 then V else jv_U (jv_U (jv_U (jv_U V 135 (0 + a) (nI 2)) 135 (288 + a) (V 135 864)) 135 (384 + a) (-1)) 135 (480 + a) (V 135 864 + V 125 (a % 12) / nI 2)
def arR (V : (Nat → Nat → Int32)) (a : Nat) : (Nat → Nat → Int32) := if V 135 (576 + a) = V 135 864 then heM (jv_U V 135 (576 + a) (-1)) a (jv_U V 135 (576 + a) (-1) 135 (672 + a)) else V
def arD (V : (Nat → Nat → Int32)) (a : Nat) : (Nat → Nat → Int32) := if V 135 (768 + a) = V 135 864 then deM (jv_U V 135 (768 + a) (-1)) a else V
def arM (V : (Nat → Nat → Int32)) (a : Nat) : (Nat → Nat → Int32) := arD (arR V a) a
def sr1 (V : (Nat → Nat → Int32)) (K r f i : Nat) (p : Int32) : (Nat → Nat → Int32) := if hoM V K f i = -1 then V else if V 135 (576 + (12 * r + i)) = -1 ∨ V 135 864 + hoM V K f i < V 135 (576 + (12 * r + i)) ∨ (V 135 864 + hoM V K f i = V 135 (576 + (12 * r + i)) ∧ p < V 135 (672 + (12 * r + i))) then jv_U (jv_U V 135 (576 + (12 * r + i)) (V 135 864 + hoM V K f i)) 135 (672 + (12 * r + i)) p else V
def srL (K r f : Nat) (p : Int32) : Nat → Nat → (Nat → Nat → Int32) → (Nat → Nat → Int32)
  | 0, _, V => V
  | m + 1, i, V => srL K r f p m (i + 1) (sr1 V K r f i p)
def mnI (x y : Int32) : Int32 := if y < x then y else x
def sd1 (V : (Nat → Nat → Int32)) (K r f i : Nat) : (Nat → Nat → Int32) := if hoM V K f i = -1 then V else jv_U V 135 (768 + (12 * r + i)) (if V 135 (768 + (12 * r + i)) = -1 then V 135 864 + hoM V K f i else mnI (V 135 (768 + (12 * r + i))) (V 135 864 + hoM V K f i))
def sdL (K r f : Nat) : Nat → Nat → (Nat → Nat → Int32) → (Nat → Nat → Int32)
  | 0, _, V => V
  | m + 1, i, V => sdL K r f m (i + 1) (sd1 V K r f i)
def seR (V : (Nat → Nat → Int32)) (N K r f : Nat) : (Nat → Nat → Int32) := srL K r f (V 135 (192 + 12 * r + f) + nI 1) N 0 V
def seD (V : (Nat → Nat → Int32)) (N K r f : Nat) : (Nat → Nat → Int32) := sdL K r f N 0 V
def tuR (V : (Nat → Nat → Int32)) (N K r f : Nat) : (Nat → Nat → Int32) := if V 134 r ≤ V 135 (192 + (12 * r + f)) then V else seR V N K r f
def tmR (V : (Nat → Nat → Int32)) (N K r f : Nat) : (Nat → Nat → Int32) := if V 135 (384 + (12 * r + f)) = V 135 864 then tuR (jv_U V 135 (384 + (12 * r + f)) (-1)) N K r f else V
def tmD (V : (Nat → Nat → Int32)) (N K r f : Nat) : (Nat → Nat → Int32) := if V 135 (480 + (12 * r + f)) = V 135 864 then seD (jv_U V 135 (480 + (12 * r + f)) (-1)) N K r f else V
def tmM (V : (Nat → Nat → Int32)) (N K r f : Nat) : (Nat → Nat → Int32) := tmD (tmR V N K r f) N K r f
def haL (r : Nat) : Nat → Nat → (Nat → Nat → Int32) → (Nat → Nat → Int32)
  | 0, _, V => V
  | m + 1, i, V => haL r m (i + 1) (arM V (12 * r + i))
def htL (N K r : Nat) : Nat → Nat → (Nat → Nat → Int32) → (Nat → Nat → Int32)
  | 0, _, V => V
  | m + 1, i, V => htL N K r m (i + 1) (tmM V N K r i)
def hfM (V : (Nat → Nat → Int32)) (N K r : Nat) : (Nat → Nat → Int32) := htL N K r N 0 (haL r N 0 V)
def hoN (V : (Nat → Nat → Int32)) : (Nat → Nat → Int32) := jv_U V 135 864 (V 135 864 + nI 1)
def hqL (N K : Nat) : Nat → Nat → (Nat → Nat → Int32) → (Nat → Nat → Int32)
  | 0, _, V => V
  | m + 1, i, V => hqL N K m (i + 1) (hfM V N K i)
def houM (V : (Nat → Nat → Int32)) (N K R : Nat) : (Nat → Nat → Int32) := hoN (hqL N K R 0 V)
def lkM (N K r : Nat) : Nat → (Nat → Nat → Int32) → (Nat → Nat → Int32)
  | 0, V => V
  | m + 1, V => lkM N K r m (hoN (hfM V N K r))
def hdL (V : (Nat → Nat → Int32)) (r : Nat) : Nat → Nat → Nat → Nat
  | 0, _, a => a
  | m + 1, i, a => hdL V r m (i + 1) (if V 135 (96 + 12 * r + i) = -1 then a + 0 else a + 1)
def haA (V : (Nat → Nat → Int32)) (N : Nat) : Nat → Nat → Nat → Nat
  | 0, _, a => a
  | m + 1, i, a => haA V N m (i + 1) (a + hdL V i N 0 0)
def beL (V : (Nat → Nat → Int32)) (r : Nat) : Nat → Nat → Int32 → Int32
  | 0, _, a => a
  | m + 1, i, a => beL V r m (i + 1) (if V 135 (0 + 12 * r + i) = nI 1 then a + V 124 i else a + nI 0)
def owB (V : (Nat → Nat → Int32)) (a : Nat) : Bool := decide (¬ V 135 (576 + a) = -1 ∨ ¬ V 135 (768 + a) = -1)
def qmL (V : (Nat → Nat → Int32)) (r : Nat) : Nat → Nat → Bool
  | 0, _ => true
  | m + 1, i => if owB V (12 * r + i) = false ∧ V 135 (384 + (12 * r + i)) = -1 ∧ V 135 (480 + (12 * r + i)) = -1 then qmL V r m (i + 1) else false
def owL (V : (Nat → Nat → Int32)) (r : Nat) : Nat → Nat → Nat → Nat
  | 0, _, a => a
  | m + 1, i, a => owL V r m (i + 1) (if owB V (12 * r + i) = true then a + 1 else a + 0)
theorem heM_out {V : (Nat → Nat → Int32)} {a q : Nat} {p : Int32} (h : q ≠ 135) : heM V a p q = V q := by
  unfold heM
  split
  · rw [jv_U_other h, jv_U_other h, jv_U_other h, jv_U_other h]
  · rfl
theorem deM_out {V : (Nat → Nat → Int32)} {a q : Nat} (h : q ≠ 135) : deM V a q = V q := by
  unfold deM
  split
  · rfl
  · rw [jv_U_other h, jv_U_other h, jv_U_other h, jv_U_other h]
theorem arR_out {V : (Nat → Nat → Int32)} {a q : Nat} (h : q ≠ 135) : arR V a q = V q := by
  unfold arR
  split
  · rw [heM_out h, jv_U_other h]
  · rfl
theorem arD_out {V : (Nat → Nat → Int32)} {a q : Nat} (h : q ≠ 135) : arD V a q = V q := by
  unfold arD
  split
  · rw [deM_out h, jv_U_other h]
  · rfl
theorem arM_out {V : (Nat → Nat → Int32)} {a q : Nat} (h : q ≠ 135) : arM V a q = V q := by
  unfold arM
  rw [arD_out h, arR_out h]
theorem sr1_out {V : (Nat → Nat → Int32)} {K r f i q : Nat} {p : Int32} (h : q ≠ 135) : sr1 V K r f i p q = V q := by
  unfold sr1
  split
  · rfl
  · split
    · rw [jv_U_other h, jv_U_other h]
    · rfl
theorem sd1_out {V : (Nat → Nat → Int32)} {K r f i q : Nat} (h : q ≠ 135) : sd1 V K r f i q = V q := by
  unfold sd1
  split
  · rfl
  · rw [jv_U_other h]
theorem srL_out {K r f q : Nat} {p : Int32} (h : q ≠ 135) : ∀ m i V, srL K r f p m i V q = V q := by
  intro m
  induction m with
  | zero => intro i V; rfl
  | succ m ih =>
    intro i V
    show srL K r f p m (i + 1) _ q = _
    rw [ih, sr1_out h]
theorem sdL_out {K r f q : Nat} (h : q ≠ 135) : ∀ m i V, sdL K r f m i V q = V q := by
  intro m
  induction m with
  | zero => intro i V; rfl
  | succ m ih =>
    intro i V
    show sdL K r f m (i + 1) _ q = _
    rw [ih, sd1_out h]
theorem tuR_out {V : (Nat → Nat → Int32)} {N K r f q : Nat} (h : q ≠ 135) : tuR V N K r f q = V q := by
  unfold tuR seR
  split
  · rfl
  · rw [srL_out h]
theorem tmR_out {V : (Nat → Nat → Int32)} {N K r f q : Nat} (h : q ≠ 135) : tmR V N K r f q = V q := by
  unfold tmR
  split
  · rw [tuR_out h, jv_U_other h]
  · rfl
theorem tmD_out {V : (Nat → Nat → Int32)} {N K r f q : Nat} (h : q ≠ 135) : tmD V N K r f q = V q := by
  unfold tmD seD
  split
  · rw [sdL_out h, jv_U_other h]
  · rfl
theorem tmM_out {V : (Nat → Nat → Int32)} {N K r f q : Nat} (h : q ≠ 135) : tmM V N K r f q = V q := by
  unfold tmM
  rw [tmD_out h, tmR_out h]
theorem haL_out {r q : Nat} (h : q ≠ 135) : ∀ m i V, haL r m i V q = V q := by
  intro m
  induction m with
  | zero => intro i V; rfl
  | succ m ih =>
    intro i V
    show haL r m (i + 1) _ q = _
    rw [ih, arM_out h]
theorem htL_out {N K r q : Nat} (h : q ≠ 135) : ∀ m i V, htL N K r m i V q = V q := by
  intro m
  induction m with
  | zero => intro i V; rfl
  | succ m ih =>
    intro i V
    show htL N K r m (i + 1) _ q = _
    rw [ih, tmM_out h]
theorem hfM_out {V : (Nat → Nat → Int32)} {N K r q : Nat} (h : q ≠ 135) : hfM V N K r q = V q := by
  unfold hfM
  rw [htL_out h, haL_out h]
theorem hoN_out {V : (Nat → Nat → Int32)} {q : Nat} (h : q ≠ 135) : hoN V q = V q := jv_U_other h
theorem hqL_out {N K q : Nat} (h : q ≠ 135) : ∀ m i V, hqL N K m i V q = V q := by
  intro m
  induction m with
  | zero => intro i V; rfl
  | succ m ih =>
    intro i V
    show hqL N K m (i + 1) _ q = _
    rw [ih, hfM_out h]
theorem houM_out {V : (Nat → Nat → Int32)} {N K R q : Nat} (h : q ≠ 135) : houM V N K R q = V q := by
  unfold houM
  rw [hoN_out h, hqL_out h]
theorem lkM_out {N K r q : Nat} (h : q ≠ 135) : ∀ m V, lkM N K r m V q = V q := by
  intro m
  induction m with
  | zero => intro V; rfl
  | succ m ih =>
    intro V
    show lkM N K r m _ q = _
    rw [ih, hoN_out h, hfM_out h]

def kpM (V : (Nat → Nat → Int32)) : (Nat → Nat → Int32) := jv_cpy V 135 136 865
def bbM (V : (Nat → Nat → Int32)) : (Nat → Nat → Int32) := jv_cpy V 136 135 865
def ieM (V : (Nat → Nat → Int32)) (N K r : Nat) : (Nat → Nat → Int32) := lkM N K r 100 (kpM V)
def wiM (V : (Nat → Nat → Int32)) (N K r f : Nat) : (Nat → Nat → Int32) := lkM N K r 100 (deM (kpM V) (12 * r + f))
theorem kpM_out {V : (Nat → Nat → Int32)} {q : Nat} (h : q ≠ 136) : kpM V q = V q := by
  funext c
  unfold kpM jv_cpy
  rw [if_neg h]
theorem bbM_out {V : (Nat → Nat → Int32)} {q : Nat} (h : q ≠ 135) : bbM V q = V q := by
  funext c
  unfold bbM jv_cpy
  rw [if_neg h]
theorem ieM_out {V : (Nat → Nat → Int32)} {N K r q : Nat} (h : q < 135 ∨ 136 < q) : ieM V N K r q = V q := by
  unfold ieM
  rw [lkM_out (by omega), kpM_out (by omega)]
theorem wiM_out {V : (Nat → Nat → Int32)} {N K r f q : Nat} (h : q < 135 ∨ 136 < q) : wiM V N K r f q = V q := by
  unfold wiM
  rw [lkM_out (by omega), deM_out (by omega), kpM_out (by omega)]
theorem kpM_Mt {V : (Nat → Nat → Int32)} {N K R : Nat} (h : Mt V N K R) : Mt (kpM V) N K R := h.o (kpM_out (by omega)) (kpM_out (by omega))
theorem bbM_Mt {V : (Nat → Nat → Int32)} {N K R : Nat} (h : Mt V N K R) : Mt (bbM V) N K R := h.o (bbM_out (by omega)) (bbM_out (by omega))
theorem lkM_Mt {V : (Nat → Nat → Int32)} {N K R K' r m : Nat} (h : Mt V N K R) : Mt (lkM N K' r m V) N K R := h.o (lkM_out (by omega) _ _) (lkM_out (by omega) _ _)
theorem deM_Mt {V : (Nat → Nat → Int32)} {N K R a : Nat} (h : Mt V N K R) : Mt (deM V a) N K R := h.o (deM_out (by omega)) (deM_out (by omega))
theorem ieM_Mt {V : (Nat → Nat → Int32)} {N K R r : Nat} (h : Mt V N K R) : Mt (ieM V N K r) N K R := lkM_Mt (kpM_Mt h)
theorem wiM_Mt {V : (Nat → Nat → Int32)} {N K R r f : Nat} (h : Mt V N K R) : Mt (wiM V N K r f) N K R := lkM_Mt (deM_Mt (kpM_Mt h))
def qtL (N K r : Nat) : Nat → Nat → (Nat → Nat → Int32) → (Nat → Nat → Int32) × Nat
  | 0, p, V => (V, p)
  | m + 1, p, V => if qmL V r N 0 = true then (V, p) else qtL N K r m (p + 1) (lkM N K r 1 V)
def qtM (V : (Nat → Nat → Int32)) (N K r : Nat) : (Nat → Nat → Int32) × Nat := qtL N K r 101 0 (kpM V)
def qtI (p : Nat) : Int32 := if 100 < p then -1 else nI p
def dnV (N K r : Nat) : Nat → Nat → (Nat → Nat → Int32) → (Nat → Nat → Int32)
  | 0, _, V => V
  | m + 1, i, V => dnV N K r m (i + 1) (bbM (wiM V N K r i))
def dnB (N K r : Nat) : Nat → Nat → (Nat → Nat → Int32) → Nat → Int32 → Nat
  | 0, _, _, b, _ => b
  | m + 1, i, V, b, l => if beL (wiM V N K r i) r N 0 (nI 0) < l then dnB N K r m (i + 1) (bbM (wiM V N K r i)) i (beL (wiM V N K r i) r N 0 (nI 0)) else dnB N K r m (i + 1) (bbM (wiM V N K r i)) b l
def smV (V : (Nat → Nat → Int32)) (N K r i : Nat) : (Nat → Nat → Int32) := ieM (jv_U V 127 i (nI 0)) N K r
def smO (V : (Nat → Nat → Int32)) (N K r i : Nat) : (Nat → Nat → Int32) := jv_U (bbM (smV V N K r i)) 127 i (nI 1)
def shL (N K r : Nat) : Nat → Nat → (Nat → Nat → Int32) → Option Nat → Int32 → (Nat → Nat → Int32) × Option Nat
  | 0, _, V, b, _ => (V, b)
  | m + 1, i, V, b, l => if V 127 i = 0 then shL N K r m (i + 1) V b l else if beL (smV V N K r i) r N 0 (nI 0) < l then shL N K r m (i + 1) (smO V N K r i) (some i) (beL (smV V N K r i) r N 0 (nI 0)) else shL N K r m (i + 1) (smO V N K r i) b l
theorem U127_Mt {V : (Nat → Nat → Int32)} {N K R i : Nat} {x : Int32} (h : Mt V N K R) : Mt (jv_U V 127 i x) N K R := h.o (jv_U_other (by omega)) (jv_U_other (by omega))
theorem smO_Mt {V : (Nat → Nat → Int32)} {N K R r i : Nat} (h : Mt V N K R) : Mt (smO V N K r i) N K R := U127_Mt (bbM_Mt (ieM_Mt (U127_Mt h)))
def dnX (V : (Nat → Nat → Int32)) (N K r : Nat) : (Nat → Nat → Int32) := dnV N K r (N - 1) 1 (bbM (wiM V N K r 0))
def dnR (V : (Nat → Nat → Int32)) (N K r : Nat) : Nat := dnB N K r (N - 1) 1 (bbM (wiM V N K r 0)) 0 (beL (wiM V N K r 0) r N 0 (nI 0))
def shX (V : (Nat → Nat → Int32)) (N K r : Nat) : (Nat → Nat → Int32) × Option Nat := shL N K r (N - 1) 0 (bbM (ieM V N K r)) none (beL (ieM V N K r) r N 0 (nI 0))
theorem dnV_Mt {N K R r : Nat} : ∀ m i V, Mt V N K R → Mt (dnV N K r m i V) N K R := by
  intro m
  induction m with
  | zero => intro i V h; exact h
  | succ m ih => intro i V h; exact ih _ _ (bbM_Mt (wiM_Mt h))
theorem dnX_Mt {V : (Nat → Nat → Int32)} {N K R r : Nat} (h : Mt V N K R) : Mt (dnX V N K r) N K R := dnV_Mt _ _ _ (bbM_Mt (wiM_Mt h))
theorem shL_Mt {N K R r : Nat} : ∀ m i V b l, Mt V N K R → Mt (shL N K r m i V b l).1 N K R := by
  intro m
  induction m with
  | zero => intro i V b l h; exact h
  | succ m ih =>
    intro i V b l h
    unfold shL
    split
    · exact ih _ _ _ _ h
    · split
      · exact ih _ _ _ _ (smO_Mt h)
      · exact ih _ _ _ _ (smO_Mt h)
theorem shX_Mt {V : (Nat → Nat → Int32)} {N K R r : Nat} (h : Mt V N K R) : Mt (shX V N K r).1 N K R := shL_Mt _ _ _ _ _ (bbM_Mt (ieM_Mt h))
theorem qtL_Mt {N K R r : Nat} : ∀ m p V, Mt V N K R → Mt (qtL N K r m p V).1 N K R := by
  intro m
  induction m with
  | zero => intro p V h; exact h
  | succ m ih =>
    intro p V h
    unfold qtL
    split
    · exact h
    · exact ih _ _ (lkM_Mt h)

def t0 (V : (Nat → Nat → Int32)) : (Nat → Nat → Int32) := jv_U V 123 0 (nI 0)
def t1 (V : (Nat → Nat → Int32)) (c : Nat) : (Nat → Nat → Int32) := jv_U (t0 V) 123 0 (nI c)
def t2 (V : (Nat → Nat → Int32)) (c : Nat) : (Nat → Nat → Int32) := jv_U V 123 0 (nI c)
theorem t0_Mt {V : (Nat → Nat → Int32)} {N K R : Nat} (h : Mt V N K R) : Mt (t0 V) N K R := h.to (jv_Unj (by omega)) (jv_Unj (by omega)) (jv_Unj (by omega)) (jv_U_other (by omega))
theorem t0_out {V : (Nat → Nat → Int32)} {q : Nat} (h : q ≠ 123) : t0 V q = V q := jv_U_other h
theorem t2_Mt {V : (Nat → Nat → Int32)} {N K R c : Nat} (h : Mt V N K R) : Mt (t2 V c) N K R := h.to (jv_Unj (by omega)) (jv_Unj (by omega)) (jv_Unj (by omega)) (jv_U_other (by omega))

def anI (V : (Nat → Nat → Int32)) (i : Nat) : (Nat → Nat → Int32) := fun q c => if c < i then (if q = 124 then nI 10 else if q = 125 then nI 2 else if q = 126 then nI 3 else if q = 127 then nI 1 else V q c) else V q c
def anM (V : (Nat → Nat → Int32)) (m : Nat) : (Nat → Nat → Int32) := anI (jv_U (jv_U (jv_U V 123 1 (nI m)) 123 2 (nI 0)) 123 3 (nI 0)) 12
theorem anI_0 {V : (Nat → Nat → Int32)} : anI V 0 = V := by
  funext q c
  unfold anI
  rw [if_neg (by omega)]
theorem anI_s {V : (Nat → Nat → Int32)} {i : Nat} : jv_U (jv_U (jv_U (jv_U (anI V i) 124 i (nI 10)) 125 i (nI 2)) 126 i (nI 3)) 127 i (nI 1) = anI V (i + 1) := by
  funext q c
  unfold jv_U anI
  by_cases hc : c = i
  · subst hc
    rw [if_neg (Nat.lt_irrefl c), if_pos (Nat.lt_succ_self c)]
    simp only [if_true]
    by_cases h1 : q = 127
    · subst h1; rfl
    · by_cases h2 : q = 126
      · subst h2; rfl
      · by_cases h3 : q = 125
        · subst h3; rfl
        · by_cases h4 : q = 124
          · subst h4; rfl
          · rw [if_neg h1, if_neg h2, if_neg h3, if_neg h4, if_neg h4, if_neg h3, if_neg h2, if_neg h1]
  · simp only [if_neg hc, ite_self]
    by_cases h : c < i
    · have h' : c < i + 1 := by omega
      simp only [if_pos h, if_pos h']
    · have h' : ¬ c < i + 1 := by omega
      simp only [if_neg h, if_neg h']

def adM (V : (Nat → Nat → Int32)) (K lo hi ev : Nat) (w : Int32) : (Nat → Nat → Int32) := jv_U (jv_U (jv_U (jv_U (jv_U (jv_U V 128 K (nI lo)) 129 K (nI hi)) 130 K (nI ev)) 131 K w) 132 K (nI 1)) 123 2 (nI (K + 1))

def clW (V : (Nat → Nat → Int32)) (a w : Nat) : (Nat → Nat → Int32) := fun q c => if q = 135 ∧ c % 96 = a ∧ 96 ≤ c ∧ c < w then -1 else V q c
theorem clW_0 {V : (Nat → Nat → Int32)} {a : Nat} : clW V a 96 = V := by
  funext q c
  unfold clW
  rw [if_neg (by omega)]
theorem clW_s {V : (Nat → Nat → Int32)} {a k : Nat} (ha : a < 96) (hk : 1 ≤ k) : jv_U (clW V a (96 * k)) 135 (96 * k + a) (-1) = clW V a (96 * (k + 1)) := by
  funext q c
  unfold jv_U clW
  by_cases hq : q = 135
  · subst hq
    rw [if_pos rfl]
    by_cases hc : c = 96 * k + a
    · rw [if_pos hc, if_pos (⟨rfl, by omega, by omega, by omega⟩ : 135 = 135 ∧ c % 96 = a ∧ 96 ≤ c ∧ c < 96 * (k + 1))]
    · rw [if_neg hc]
      by_cases h : 135 = 135 ∧ c % 96 = a ∧ 96 ≤ c ∧ c < 96 * k
      · rw [if_pos h, if_pos (by omega : 135 = 135 ∧ c % 96 = a ∧ 96 ≤ c ∧ c < 96 * (k + 1))]
      · rw [if_neg h, if_neg (by omega : ¬ (135 = 135 ∧ c % 96 = a ∧ 96 ≤ c ∧ c < 96 * (k + 1)))]
  · rw [if_neg hq, if_neg (fun d => hq d.1), if_neg (fun d => hq d.1)]
def cl1 (V : (Nat → Nat → Int32)) (a : Nat) : (Nat → Nat → Int32) := clW (jv_U V 135 (0 + a) (nI 0)) a 864
def clL (r : Nat) : Nat → Nat → (Nat → Nat → Int32) → (Nat → Nat → Int32)
  | 0, _, V => V
  | m + 1, i, V => clL r m (i + 1) (cl1 V (12 * r + i))
def srM (V : (Nat → Nat → Int32)) (R f : Nat) (y : Int32) : (Nat → Nat → Int32) := heM (clL R 12 0 (jv_U (jv_U (jv_U V 123 3 (nI (R + 1))) 133 R (nI f)) 134 R y)) (12 * R + f) (nI 0)

theorem inc96 (k : Nat) : nI (96 * k) + Int32.ofInt 96 = nI (96 * (k + 1)) := by
  rw [show Int32.ofInt 96 = nI 96 by decide +kernel, nI_add, Nat.mul_succ]

def hdM (V : (Nat → Nat → Int32)) (a f : Nat) : Int32 := if V 135 (0 + a) = nI 1 then V 124 f else nI 0

def ouM (N K R : Nat) : Nat → (Nat → Nat → Int32) → (Nat → Nat → Int32)
  | 0, V => V
  | m + 1, V => ouM N K R m (houM V N K R)

theorem svB_t0 {V : (Nat → Nat → Int32)} {c : Nat} {x : Int32} : svB (t0 V) c x = svB V c x := by
  unfold svB
  rw [t0_out (by omega), t0_out (by omega), t0_out (by omega)]
theorem hoM_t0 {V : (Nat → Nat → Int32)} {K a b : Nat} : hoM (t0 V) K a b = hoM V K a b := hoM_congr (fun q h1 h2 => t0_out (by omega))

def pbM (x y : Int32) : Int32 := if x = -1 then -1 else y

theorem wwV_Mt {V : (Nat → Nat → Int32)} {N K R l f : Nat} {b : Int32} (h : Mt V N K R) : Mt (wwV V N K l f b) N K R := by
  unfold wwV wwM
  exact h.o (by rw [jv_U_other (by omega), wayM_out (by omega), jv_U_other (by omega)]) (by rw [jv_U_other (by omega), wayM_out (by omega), jv_U_other (by omega)])
theorem wwV_132 {V : (Nat → Nat → Int32)} {N K l f : Nat} {b : Int32} : wwV V N K l f b 132 l = V 132 l := by
  unfold wwV
  rw [jv_Ueq]
def gm1 (V : (Nat → Nat → Int32)) (N K l f : Nat) : (Nat → Nat → Int32) := wwV (t0 V) N K l f (nI 1)
def gm2 (V : (Nat → Nat → Int32)) (N K l f : Nat) : (Nat → Nat → Int32) := wwV (gm1 V N K l f) N K l f (nI 0)

def smM (V : (Nat → Nat → Int32)) : Nat → Nat → Int32 → Int32
  | 0, _, a => a
  | m + 1, i, a => smM V m (i + 1) (a + V 124 i)

theorem NV_o {V : (Nat → Nat → Int32)} {n q : Nat} {f : Nat → Int32} (h : q ≠ n) : jv_NV V n f q = V q := if_neg h
theorem NV_Mt {V : (Nat → Nat → Int32)} {N K R n : Nat} {f : Nat → Int32} (hn : 140 < n) (h : Mt V N K R) : Mt (jv_NV V n f) N K R := h.o (NV_o (by omega)) (NV_o (by omega))
theorem Un_Mt {V : (Nat → Nat → Int32)} {N K R n j : Nat} {x : Int32} (hn : 140 < n) (h : Mt V N K R) : Mt (jv_U V n j x) N K R := h.o (jv_U_other (by omega)) (jv_U_other (by omega))
def mxL (V : (Nat → Nat → Int32)) (q : Nat) : Nat → Nat → Int64 → Int64
  | 0, _, d => d
  | m + 1, i, d => mxL V q m (i + 1) (mx d (V q i).toInt64)
def bo (x : Int32) : Int32 := if x = 0 then nI 0 else nI 1
def wmL (V : (Nat → Nat → Int32)) (r : Nat) : Nat → Nat → Int64 → Int64
  | 0, _, d => d
  | m + 1, i, d => wmL V r m (i + 1) (mx (mx (mx (mx d (V 135 (0 + (12 * r + i))).toInt64) (V 135 (96 + (12 * r + i))).toInt64) (V 135 (288 + (12 * r + i))).toInt64) (V 135 (192 + (12 * r + i))).toInt64)
def ssL (V : (Nat → Nat → Int32)) : Nat → Nat → Int64 → Int64
  | 0, _, d => d
  | m + 1, i, d => ssL V m (i + 1) (mx (mx d (V 126 i).toInt64) (bo (V 127 i)).toInt64)
def slL (V : (Nat → Nat → Int32)) : Nat → Nat → Int64 → Int64
  | 0, _, d => d
  | m + 1, i, d => slL V m (i + 1) (mx d (bo (V 132 i)).toInt64)
def z0 : Nat → Int32 := fun _ => 0
def fmA (V : (Nat → Nat → Int32)) (n i : Nat) : (Nat → Nat → Int32) := jv_U (jv_U (jv_NV V n z0) n 0 (V 124 i)) n 1 (V 125 i)
def fmB (V : (Nat → Nat → Int32)) (N K n i : Nat) : (Nat → Nat → Int32) := jv_U (fmA V n i) n 2 (nI (arL (fmA V n i) K i N 0 0))
def fmC (V : (Nat → Nat → Int32)) (N K n i : Nat) : (Nat → Nat → Int32) := wayM (fmB V N K n i) N K i
def fmD (V : (Nat → Nat → Int32)) (N K n i : Nat) : (Nat → Nat → Int32) := jv_U (fmC V N K n i) n 3 (nI (fmL (fmC V N K n i) N 0 i))
def fmE (V : (Nat → Nat → Int32)) (N K n i : Nat) : (Nat → Nat → Int32) := wayM (fmD V N K n i) N K 0
def fmF (V : (Nat → Nat → Int32)) (N K n i : Nat) : (Nat → Nat → Int32) := jv_U (fmE V N K n i) n 4 (fmE V N K n i 137 i)
def dmF (N K : Nat) : Nat → Nat → Nat → (Nat → Nat → Int32) → Int64 → (Nat → Nat → Int32) × Int64
  | 0, _, _, V, d => (V, d)
  | m + 1, i, n, V, d => dmF N K m (i + 1) (n + 1) (fmF V N K n i) (mxL (fmF V N K n i) n 5 0 d)
def rmA (V : (Nat → Nat → Int32)) (n r : Nat) : (Nat → Nat → Int32) := jv_U (jv_U (jv_NV V n z0) n 0 (V 133 r)) n 1 (V 134 r)
def rmB (V : (Nat → Nat → Int32)) (N n r : Nat) : (Nat → Nat → Int32) := jv_U (rmA V n r) n 2 (beL (rmA V n r) r N 0 (nI 0))
def rmC (V : (Nat → Nat → Int32)) (N n r : Nat) : (Nat → Nat → Int32) := jv_U (rmB V N n r) n 3 (nI (hdL (rmB V N n r) r N 0 0))
def rmD (V : (Nat → Nat → Int32)) (N n r : Nat) : (Nat → Nat → Int32) := jv_U (rmC V N n r) n 4 (nI (owL (rmC V N n r) r N 0 0))
def rmF (V : (Nat → Nat → Int32)) (N K n r : Nat) : (Nat → Nat → Int32) := jv_U (bbM (qtM (rmD V N n r) N K r).1) n 5 (qtI (qtM (rmD V N n r) N K r).2)
def rmH (V : (Nat → Nat → Int32)) (N K n r : Nat) : (Nat → Nat → Int32) := jv_U (bbM (ieM (rmF V N K n r) N K r)) n 6 (beL (ieM (rmF V N K n r) N K r) r N 0 (nI 0))
def rmJ (V : (Nat → Nat → Int32)) (N K n r : Nat) : (Nat → Nat → Int32) := jv_U (dnX (rmH V N K n r) N K r) n 7 (nI (dnR (rmH V N K n r) N K r))
def rmL (V : (Nat → Nat → Int32)) (N K n r : Nat) : (Nat → Nat → Int32) := jv_U (shX (rmJ V N K n r) N K r).1 n 8 (ov (shX (rmJ V N K n r) N K r).2)
def dmR (N K : Nat) : Nat → Nat → Nat → (Nat → Nat → Int32) → Int64 → (Nat → Nat → Int32) × Int64
  | 0, _, _, V, d => (V, d)
  | m + 1, i, n, V, d => dmR N K m (i + 1) (n + 1) (rmL V N K n i) (wmL (rmL V N K n i) i N 0 (mxL (rmL V N K n i) n 9 0 d))
theorem fmA_Mt {V : (Nat → Nat → Int32)} {N K R n i : Nat} (hn : 140 < n) (h : Mt V N K R) : Mt (fmA V n i) N K R := Un_Mt hn (Un_Mt hn (NV_Mt hn h))
theorem fmB_Mt {V : (Nat → Nat → Int32)} {N K R n i : Nat} (hn : 140 < n) (h : Mt V N K R) : Mt (fmB V N K n i) N K R := Un_Mt hn (fmA_Mt hn h)
theorem fmD_Mt {V : (Nat → Nat → Int32)} {N K R n i : Nat} (hn : 140 < n) (h : Mt V N K R) : Mt (fmD V N K n i) N K R := Un_Mt hn (wayM_Mt (fmB_Mt hn h))
theorem fmF_Mt {V : (Nat → Nat → Int32)} {N K R n i : Nat} (hn : 140 < n) (h : Mt V N K R) : Mt (fmF V N K n i) N K R := Un_Mt hn (wayM_Mt (fmD_Mt hn h))
theorem rmA_Mt {V : (Nat → Nat → Int32)} {N K R n r : Nat} (hn : 140 < n) (h : Mt V N K R) : Mt (rmA V n r) N K R := Un_Mt hn (Un_Mt hn (NV_Mt hn h))
theorem rmB_Mt {V : (Nat → Nat → Int32)} {N K R n r : Nat} (hn : 140 < n) (h : Mt V N K R) : Mt (rmB V N n r) N K R := Un_Mt hn (rmA_Mt hn h)
theorem rmC_Mt {V : (Nat → Nat → Int32)} {N K R n r : Nat} (hn : 140 < n) (h : Mt V N K R) : Mt (rmC V N n r) N K R := Un_Mt hn (rmB_Mt hn h)
theorem rmD_Mt {V : (Nat → Nat → Int32)} {N K R n r : Nat} (hn : 140 < n) (h : Mt V N K R) : Mt (rmD V N n r) N K R := Un_Mt hn (rmC_Mt hn h)
theorem rmF_Mt {V : (Nat → Nat → Int32)} {N K R n r : Nat} (hn : 140 < n) (h : Mt V N K R) : Mt (rmF V N K n r) N K R := Un_Mt hn (bbM_Mt (qtL_Mt _ _ _ (kpM_Mt (rmD_Mt hn h))))
theorem rmH_Mt {V : (Nat → Nat → Int32)} {N K R n r : Nat} (hn : 140 < n) (h : Mt V N K R) : Mt (rmH V N K n r) N K R := Un_Mt hn (bbM_Mt (ieM_Mt (rmF_Mt hn h)))
theorem rmJ_Mt {V : (Nat → Nat → Int32)} {N K R n r : Nat} (hn : 140 < n) (h : Mt V N K R) : Mt (rmJ V N K n r) N K R := Un_Mt hn (dnX_Mt (rmH_Mt hn h))
theorem rmL_Mt {V : (Nat → Nat → Int32)} {N K R n r : Nat} (hn : 140 < n) (h : Mt V N K R) : Mt (rmL V N K n r) N K R := Un_Mt hn (shX_Mt (rmJ_Mt hn h))
def da1 (V : (Nat → Nat → Int32)) (N K R n : Nat) : (Nat → Nat → Int32) := jv_U (jv_U (jv_U (jv_U (jv_NV (t0 V) n z0) n 0 (nI N)) n 1 (V 135 864)) n 2 (nI K)) n 3 (nI R)
def da2 (V : (Nat → Nat → Int32)) (N K R n : Nat) : (Nat → Nat → Int32) := jv_U (mdL N K N 0 (da1 V N K R n) none (nI 0)).1 n 4 (oz (mdL N K N 0 (da1 V N K R n) none (nI 0)).2)
def da3 (V : (Nat → Nat → Int32)) (N K R n : Nat) : (Nat → Nat → Int32) := jv_U (pnL N K N 0 (da2 V N K R n) 0).1 n 5 (nI (pnL N K N 0 (da2 V N K R n) 0).2)
def daF (V : (Nat → Nat → Int32)) (N K R n : Nat) : (Nat → Nat → Int32) × Int64 := dmF N K N 0 (n + 1) (da3 V N K R n) (mxL (da3 V N K R n) n 6 0 2287)
def daX (V : (Nat → Nat → Int32)) (N K R n : Nat) : (Nat → Nat → Int32) × Int64 := dmR N K R 0 (n + 1 + N) (daF V N K R n).1 (slL (daF V N K R n).1 K 0 (ssL (daF V N K R n).1 (N - 1) 0 (daF V N K R n).2))
theorem da1_Mt {V : (Nat → Nat → Int32)} {N K R n : Nat} (hn : 140 < n) (h : Mt V N K R) : Mt (da1 V N K R n) N K R := Un_Mt hn (Un_Mt hn (Un_Mt hn (Un_Mt hn (NV_Mt hn (t0_Mt h)))))
theorem da2_Mt {V : (Nat → Nat → Int32)} {N K R n : Nat} (hn : 140 < n) (h : Mt V N K R) : Mt (da2 V N K R n) N K R := Un_Mt hn ((da1_Mt hn h).o (mdL_out (by omega) _ _ _ _ _) (mdL_out (by omega) _ _ _ _ _))
theorem da3_Mt {V : (Nat → Nat → Int32)} {N K R n : Nat} (hn : 140 < n) (h : Mt V N K R) : Mt (da3 V N K R n) N K R := Un_Mt hn ((da2_Mt hn h).o (pnL_out (by omega) _ _ _ _) (pnL_out (by omega) _ _ _ _))

